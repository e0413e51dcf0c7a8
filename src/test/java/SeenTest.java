/** Promises 27 to 33: from what o'clock it was where, and by a seed. */
final class SeenTest {
    private static final int ALL_STARTS = 0xFFFFFF, ALL_KINDS = 15, ALL_WORKS = 0x1FFE;
    private static final Due due = new Due("SeenTest");

    public static void main(String[] args) {
        see();
        forget();
        asSeen();
        worksOfEarlierPlaces();
        ask();
        drift();
        due.close();
    }

    private static void see() {
        HatHours x = new HatHours();
        due.is("room 5", x.see(5, 0, 0), HatHours.BAD);
        due.is("room -1", x.see(-1, 0, 0), HatHours.BAD);
        due.is("hour 24", x.see(0, 24, 0), HatHours.BAD);
        due.is("hour -1", x.see(0, -1, 0), HatHours.BAD);
        due.is("v 24", x.see(0, 0, 24), HatHours.BAD);
        due.is("v -1", x.see(0, 0, -1), HatHours.BAD);
        for (int i = 1; i <= 6; i++) {
            due.is("seen " + i, x.see(4, 23, 23), i);
        }
        due.is("7th", x.see(0, 0, 0), HatHours.FULL);
        due.is("7th, bad", x.see(5, 0, 0), HatHours.BAD);
        due.is("count", x.count(0), 6);
        due.is("as it is without boxes", x.starts(), ALL_STARTS);
    }

    private static void forget() {
        HatHours x = new HatHours();
        x.see(0, 1, 1);
        x.see(0, 2, 3);
        due.is("never so", x.starts(), 0);
        due.is("forget(3)", x.forget(3), HatHours.BAD);
        due.is("forget(-1)", x.forget(-1), HatHours.BAD);
        due.is("forget(2)", x.forget(2), 2);
        due.is("forget(1)", x.forget(1), 2);
        due.is("the first alone", x.starts(), ALL_STARTS);
        due.is("forget(0)", x.forget(0), 1);
        due.is("none", x.count(0), 0);
    }

    private static void asSeen() {
        HatHours x = Due.told("bonnet 3 0 1 8 2;");
        due.is("starts, nothing seen", x.starts(), ALL_STARTS);
        due.is("kinds, nothing seen", x.kinds(0), ALL_KINDS);
        due.is("works, nothing seen", x.works(0), ALL_WORKS);
        x.see(2, 10, 11);
        due.is("starts", x.starts(), 1 << 6);
        due.is("kinds that last", x.kinds(0), 1 | 1 << 2 | 1 << 3);
        due.is("works", x.works(0), 1 << 3);
        x.see(2, 12, 12);
        due.is("kinds that last as long", x.kinds(0), 1 | 1 << 2);
        x.see(2, 11, 12);
        due.is("a bonnet", x.kinds(0), 1);
        x.see(2, 10, 12);
        due.is("starts: none", x.starts(), 0);
        due.is("kinds: none", x.kinds(0), 0);
        due.is("works: none", x.works(0), 0);
        due.is("kinds(1)", x.kinds(1), HatHours.BAD);
        due.is("kinds(-1)", x.kinds(-1), HatHours.BAD);
        due.is("works(1)", x.works(1), HatHours.BAD);
        due.is("works(-1)", x.works(-1), HatHours.BAD);
        due.is("KIND stays", x.box(0, 0), 0);
        due.is("WORK stays", x.box(0, 1), 3);
        due.is("START stays", x.rule(1), 6);
        x.forget(0);
        x.see(2, 10, 10);
        due.is("a veil was over by then", x.kinds(0), 1 << 1);
        due.is("an hour earlier", x.starts(), 1 << 5);
        due.is("least WORK", x.works(0), 1 << 2);
    }

    private static void worksOfEarlierPlaces() {
        HatHours x = Due.told("veil 2 0 1 8 0;veil 2 0 1 8 1;order 1 0;");
        x.see(0, 8, 20);
        due.is("12 for the one ahead", x.works(1), 1 << 12);
        due.is("12 for itself", x.works(0), 1 << 12);
        x.forget(0);
        x.see(1, 8, 8);
        due.is("those behind do not matter", x.works(0), ALL_WORKS);
        due.is("but it itself", x.works(1), 1 << 2);
    }

    private static void ask() {
        HatHours x = Due.told("bonnet 3 0 1 8 2;veil 1 0 1 5 3;");
        due.is("where", x.ask(0), 208);
        due.is("one is left", x.ask(1), 1);
        due.is("what 2", x.ask(2), HatHours.BAD);
        due.is("what -1", x.ask(-1), HatHours.BAD);
        x.see(0, 3, 3);
        due.is("nothing learned", x.ask(0), 208);
        x.see(3, 6, 11);
        due.is("one start", x.starts(), 1 << 6);
        due.is("none to look at", x.ask(0), HatHours.NONE);
        due.is("none, how many", x.ask(1), HatHours.NONE);
        x.see(0, 3, 4);
        due.is("no start at all", x.starts(), 0);
        due.is("none either", x.ask(0), HatHours.NONE);
        HatHours none = new HatHours();
        due.is("no boxes", none.ask(0), HatHours.NONE);
        due.is("no boxes, how many", none.ask(1), HatHours.NONE);
        HatHours late = Due.told("veil 3 0 1 23 4;veil 3 0 1 23 1;");
        due.is("the least room", late.ask(0), 123);
        HatHours first = Due.told("veil 3 0 1 0 0;");
        due.is("the least of all", first.ask(0), 0);
    }

    private static void drift() {
        HatHours x = new HatHours();
        due.is("no boxes", x.drift(0, 1, 0), HatHours.STATE);
        due.is("no boxes, bad", x.drift(0, 0, 0), HatHours.BAD);
        Due.tell(x, "veil 2 9 1 5 3;");
        due.is("n 0", x.drift(0, 0, 0), HatHours.BAD);
        due.is("n 61", x.drift(0, 61, 0), HatHours.BAD);
        due.is("what 2", x.drift(0, 1, 2), HatHours.BAD);
        due.is("what -1", x.drift(0, 1, -1), HatHours.BAD);
        // Of seed 0 comes 12345, whose bits 16 and up are 0: START 0, done at 2, wanted 9.
        due.is("wrong", x.drift(0, 1, 0), 7);
        due.is("yawns", x.drift(0, 1, 1), 1);
        due.is("START stays", x.rule(1), 6);
        HatHours y = Due.told("bonnet 5 12 3 8 0;veil 3 4 2 9 0;toque 8 22 9 10 1;bridal 12 6 1 7 1;order 2 0;start 20;");
        due.is("nine times", y.drift(7, 9, 0), 824);
        due.is("yawns then", y.drift(7, 9, 1), 5);
        due.is("the order stays", y.order(0, 0), 2);
        due.is("START is as it was", y.rule(1), 20);
        due.is("sixty times", y.drift(7, 60, 0) > 0 ? 1 : 0, 1);
    }
}
