/** The boundary cases of promises 27 to 33, by the promise's number. */
final class EdgeSeenTest {
    private static final int BAD = HatHours.BAD, NONE = HatHours.NONE, FULL = HatHours.FULL;
    private static final int ALL_STARTS = 0xFFFFFF, ALL_KINDS = 15, ALL_WORKS = 0x1FFE;
    private static final Due due = new Due("EdgeSeenTest");

    public static void main(String[] args) {
        promise27EachNumber();
        promise27Full();
        promise28FirstAlone();
        promise29EachStart();
        promise29NothingAndNever();
        promise30EachKind();
        promise30AtTheEndOfTheDay();
        promise31EachWork();
        promise31OfOthers();
        promise32Least();
        promise32FewerThanNow();
        promise33Numbers();
        promise33ByHand();
        promise33SeedsThatWrap();
        promise33ByItself();
        due.close();
    }

    private static void promise27EachNumber() {
        for (int v = -1; v <= 24; v++) {
            boolean hour = v >= 0 && v <= 23;
            due.is("27 room " + v, new HatHours().see(v, 0, 0), hour && v <= 4 ? 1 : BAD);
            due.is("27 hour " + v, new HatHours().see(0, v, 0), hour ? 1 : BAD);
            due.is("27 o'clock " + v, new HatHours().see(0, 0, v), hour ? 1 : BAD);
        }
    }

    private static void promise27Full() {
        HatHours x = new HatHours();
        for (int i = 1; i <= 6; i++) {
            due.is("27 the " + i + "th, once more the same", x.see(2, 3, 3), i);
        }
        due.is("27 the 7th", x.see(2, 3, 3), FULL);
        due.is("27 the 7th, not as told", x.see(5, 3, 3), BAD);
        due.is("27 six", x.count(0), 6);
        due.is("28 five", x.forget(5), 6);
        due.is("27 the 6th again", x.see(2, 3, 4), 6);
        due.is("27 none is as SEEN", x.starts(), 0);
        due.is("27 full again", x.see(2, 3, 3), FULL);
    }

    private static void promise28FirstAlone() {
        HatHours x = new HatHours();
        due.is("28 none of none", x.forget(0), 0);
        due.is("28 one of none", x.forget(1), BAD);
        x.see(0, 1, 1);
        x.see(0, 1, 2);
        x.see(0, 1, 1);
        due.is("28 below", x.forget(-1), BAD);
        due.is("28 above", x.forget(4), BAD);
        due.is("28 all", x.forget(3), 3);
        due.is("28 three yet", x.count(0), 3);
        due.is("28 two", x.forget(2), 3);
        due.is("28 the second is not so", x.starts(), 0);
        due.is("28 the third is gone", x.forget(3), BAD);
        due.is("28 one", x.forget(1), 2);
        due.is("28 the first is so", x.starts(), ALL_STARTS);
        due.is("28 none", x.forget(0), 1);
        due.is("28 none were", x.forget(0), 0);
    }

    private static void promise29EachStart() {
        for (int v = 0; v < 24; v++) {
            HatHours x = Due.told("veil 12 0 1 23 4;");
            x.see(4, 23, v);
            due.is("29 by " + v, x.starts(), 1 << (v + 12) % 24);
            due.is("29 START stays", x.rule(1), 6);
        }
    }

    private static void promise29NothingAndNever() {
        HatHours none = new HatHours();
        due.is("29 no boxes, nothing SEEN", none.starts(), ALL_STARTS);
        none.see(4, 23, 22);
        due.is("29 no boxes, never so", none.starts(), 0);
        HatHours x = Due.told("veil 1 0 1 8 0;");
        due.is("29 nothing SEEN", x.starts(), ALL_STARTS);
        x.see(0, 10, 10);
        due.is("29 the box is over", x.starts(), ALL_STARTS);
        x.see(0, 7, 7);
        due.is("29 the box is not yet open", x.starts(), ALL_STARTS);
        x.see(1, 8, 8);
        due.is("29 another room", x.starts(), ALL_STARTS);
        x.see(0, 9, 0);
        due.is("29 an hour later", x.starts(), 1 << 22);
        x.see(0, 8, 23);
        due.is("29 as SEEN twice", x.starts(), 1 << 22);
        x.see(0, 8, 22);
        due.is("29 not as SEEN twice", x.starts(), 0);
    }

    private static void promise30EachKind() {
        // Done at 20, opened at 8: by it 20 o'clock and on for 4, 2, 3, 8 hours.
        int[] lasts = {4, 2, 3, 8};
        for (int i = 0; i < 8; i++) {
            int longEnough = 0;
            for (int kind = 0; kind < 4; kind++) {
                longEnough |= lasts[kind] > i ? 1 << kind : 0;
            }
            HatHours x = Due.told("veil 12 0 1 8 0;start 8;");
            x.see(0, 8 + i, (20 + i) % 24);
            due.is("30 it is out after " + i, x.kinds(0), longEnough);
            x.forget(0);
            x.see(0, 8 + i, 8 + i);
            due.is("30 it is over after " + i, x.kinds(0), ALL_KINDS - longEnough);
            due.is("30 KIND stays", x.box(0, 0), 1);
        }
        HatHours x = Due.told("veil 12 0 1 8 0;");
        due.is("30 nothing SEEN", x.kinds(0), ALL_KINDS);
        x.see(0, 16, 16);
        due.is("30 a bridal is over too", x.kinds(0), ALL_KINDS);
        x.see(0, 8, 8);
        due.is("30 none", x.kinds(0), 0);
    }

    private static void promise30AtTheEndOfTheDay() {
        HatHours x = Due.told("bridal 12 0 1 22 0;");
        x.see(0, 23, 19);
        due.is("30 each lasts as long", x.kinds(0), ALL_KINDS);
        x.see(0, 0, 0);
        due.is("30 none goes over to the hour 0", x.kinds(0), ALL_KINDS);
        HatHours y = Due.told("veil 1 0 1 8 0;veil 1 0 1 8 0;");
        y.see(0, 10, 9);
        due.is("30 the one beneath, longer", y.kinds(0), 1 | 1 << 2 | 1 << 3);
        due.is("30 the one above can not be", y.kinds(1), 0);
        due.is("30 no such", y.kinds(2), BAD);
    }

    private static void promise31EachWork() {
        for (int v = 0; v < 24; v++) {
            HatHours x = Due.told("veil 5 0 1 8 2;start 20;");
            x.see(2, 8, v);
            int work = (v + 4) % 24;
            due.is("31 by " + v, x.works(0), work >= 1 && work <= 12 ? 1 << work : 0);
            due.is("31 WORK stays", x.box(0, 1), 5);
        }
        HatHours y = Due.told("veil 5 0 1 8 2;");
        due.is("31 nothing SEEN", y.works(0), ALL_WORKS);
        y.see(2, 10, 10);
        due.is("31 over by then", y.works(0), ALL_WORKS);
        due.is("31 no such", y.works(1), BAD);
    }

    private static void promise31OfOthers() {
        HatHours x = Due.told("veil 1 0 1 8 0;veil 1 0 1 8 1;order 1 0;");
        x.see(0, 8, 19);
        due.is("31 the one ahead: 12", x.works(1), 1 << 12);
        due.is("31 it itself: 12", x.works(0), 1 << 12);
        x.forget(0);
        x.see(0, 8, 20);
        due.is("31 the one ahead: 13 is too much", x.works(1), 0);
        x.forget(0);
        x.see(1, 8, 7);
        due.is("31 the one behind: any", x.works(0), ALL_WORKS);
    }

    private static void promise32Least() {
        for (int room = 0; room < 5; room++) {
            for (int hour : new int[] {0, 1, 22, 23}) {
                HatHours x = Due.told("veil 1 0 1 " + hour + " " + room + ";");
                due.is("32 room " + room + " hour " + hour, x.ask(0), 100 * room + hour);
                due.is("32 one is left", x.ask(1), 1);
            }
        }
        HatHours two = Due.told("veil 1 0 1 0 3;veil 1 0 1 23 2;");
        due.is("32 the lesser room though the later hour", two.ask(0), 223);
        HatHours hours = Due.told("veil 1 0 1 9 2;veil 1 0 1 5 2;");
        due.is("32 the lesser hour", hours.ask(0), 205);
    }

    private static void promise32FewerThanNow() {
        HatHours none = new HatHours();
        due.is("32 no boxes", none.ask(0), NONE);
        due.is("32 no boxes, how many", none.ask(1), NONE);
        HatHours x = Due.told("veil 1 0 1 8 2;veil 1 0 1 8 4;");
        x.see(2, 9, 8);
        due.is("32 one START is left", x.starts(), 1 << 6);
        due.is("32 no fewer", x.ask(0), NONE);
        due.is("32 no fewer, how many", x.ask(1), NONE);
        x.see(2, 8, 8);
        due.is("32 no START is left", x.starts(), 0);
        due.is("32 none", x.ask(0), NONE);
        x.forget(0);
        due.is("32 forgotten", x.ask(0), 208);
        for (int what : new int[] {-1, 2, Integer.MIN_VALUE, Integer.MAX_VALUE}) {
            due.is("32 what " + what, x.ask(what), BAD);
        }
    }

    private static void promise33Numbers() {
        HatHours x = Due.told("veil 1 0 1 8 2;");
        for (int n : new int[] {Integer.MIN_VALUE, -1, 0, 61, Integer.MAX_VALUE}) {
            due.is("33 n " + n, x.drift(1, n, 0), BAD);
            due.is("33 n " + n + " without boxes", new HatHours().drift(1, n, 0), BAD);
        }
        for (int what : new int[] {Integer.MIN_VALUE, -1, 2, Integer.MAX_VALUE}) {
            due.is("33 what " + what, x.drift(1, 1, what), BAD);
        }
        for (int n : new int[] {1, 60}) {
            for (int what = 0; what < 2; what++) {
                due.is("33 n " + n + " is taken", x.drift(1, n, what) >= 0 ? 1 : 0, 1);
                due.is("33 STATE", new HatHours().drift(1, n, what), HatHours.STATE);
            }
        }
    }

    /** By the seed 1 are got 16838, 5758, 10113. */
    private static void promise33ByHand() {
        HatHours x = Due.told("veil 1 0 1 12 0;veil 2 0 2 20 1;");
        // START 23, 17, 14; PLACES 0 0 (alike), 0 1, 1 0.
        due.is("33 once", x.drift(1, 1, 0), 4);
        due.is("33 yawns of that", x.drift(1, 1, 1), 4);
        due.is("33 twice, summed", x.drift(1, 2, 0), 4 + 14);
        due.is("33 yawns in the end", x.drift(1, 2, 1), 0);
        due.is("33 three times, summed", x.drift(1, 3, 0), 4 + 14 + 23);
        // By the seed 0 is got 0: START 0, PLACES 0 0. Done at 1 and 3.
        due.is("33 by 0", x.drift(0, 1, 0), 1 + 6);
        due.is("33 by 0, yawns", x.drift(0, 1, 1), 4);
        // By the seed -1 is got 15929: START 8, PLACES 1 1.
        due.is("33 by -1", x.drift(-1, 1, 0), 9 + 2 * 11);
    }

    /** Bit 31 of a seed is got by none, now or later; each answer is as the model has it without wrapping. */
    private static void promise33SeedsThatWrap() {
        String text = "bonnet 5 12 3 8 0;veil 3 4 2 9 0;toque 8 22 9 10 1;bridal 12 6 1 7 1;veil 1 0 5 22 4;";
        HatHours x = Due.told(text);
        PlainModel model = new PlainModel();
        for (char c : text.toCharArray()) {
            model.feed(c);
        }
        model.text();
        for (int n : new int[] {1, 2, 59, 60}) {
            for (int what = 0; what < 2; what++) {
                due.is("33 least int", x.drift(Integer.MIN_VALUE, n, what), x.drift(0, n, what));
                due.is("33 greatest int", x.drift(Integer.MAX_VALUE, n, what), x.drift(-1, n, what));
                for (int seed : new int[] {0, 1, -1, 2, 65535, 65536, 1 << 30, Integer.MAX_VALUE, Integer.MIN_VALUE}) {
                    due.is("33 seed " + seed + " n " + n, x.drift(seed, n, what), model.drift(seed, n, what));
                }
            }
        }
    }

    private static void promise33ByItself() {
        HatHours x = Due.told("veil 1 0 1 12 0;veil 2 0 2 20 1;order 1 0;start 13;");
        int wrong = x.rule(3);
        x.drift(3, 60, 0);
        x.drift(3, 60, 1);
        due.is("33 START stays", x.rule(1), 13);
        due.is("33 the order stays", x.order(0, 0), 1);
        due.is("33 WRONG stays", x.rule(3), wrong);
        due.is("33 the same once more", x.drift(3, 60, 0), x.drift(3, 60, 0));
    }
}
