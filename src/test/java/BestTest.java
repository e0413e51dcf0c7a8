/** Promises 18 to 24: what is best. */
final class BestTest {
    private static final Due due = new Due("BestTest");

    public static void main(String[] args) {
        best();
        begin();
        swap();
        longer();
        when();
        wake();
        where();
        due.close();
    }

    private static void best() {
        // From 6 on: 2 then 0 then 1 has all done at what is wanted: 7, 9, 12.
        HatHours x = Due.told("veil 2 9 1 8 0;veil 3 12 1 8 0;veil 1 7 1 8 0;");
        due.is("least wrong", x.best(0), 0);
        due.is("place 0", x.best(10), 2);
        due.is("place 1", x.best(11), 0);
        due.is("place 2", x.best(12), 1);
        due.is("place 3", x.best(13), HatHours.BAD);
        due.is("what 1", x.best(1), HatHours.BAD);
        due.is("what 9", x.best(9), HatHours.BAD);
        due.is("what -1", x.best(-1), HatHours.BAD);
        due.is("least int", x.best(Integer.MIN_VALUE), HatHours.BAD);
        due.is("the order stays", x.order(0, 0), 0);
        // All alike: the first order by numbers, though another one is there.
        HatHours y = Due.told("veil 2 9 1 8 0;veil 2 9 1 8 0;veil 2 9 1 8 0;order 2 1 0;");
        due.is("8, 10, 12 for 9", y.best(0), 5);
        for (int i = 0; i < 3; i++) {
            due.is("alike, place " + i, y.best(10 + i), i);
        }
        HatHours none = new HatHours();
        due.is("no boxes", none.best(0), 0);
        due.is("no place", none.best(10), HatHours.BAD);
        // Five: only the wholly turned one is without wrong.
        HatHours five = Due.told("veil 5 21 1 0 0;veil 4 16 1 0 0;veil 3 12 1 0 0;veil 2 9 1 0 0;veil 1 7 1 0 0;");
        due.is("five", five.best(0), 0);
        for (int i = 0; i < 5; i++) {
            due.is("five, place " + i, five.best(10 + i), 4 - i);
        }
    }

    private static void begin() {
        HatHours x = Due.told("veil 2 9 1 8 0;veil 3 12 1 8 0;");
        due.is("start", x.begin(0), 7);
        due.is("wrong then", x.begin(1), 0);
        due.is("START stays", x.rule(1), 6);
        due.is("what 2", x.begin(2), HatHours.BAD);
        due.is("what -1", x.begin(-1), HatHours.BAD);
        // Wanted 9 of both, done 2 and 3 behind the start: 6 and 7 are as good.
        HatHours y = Due.told("veil 2 9 1 8 0;veil 1 9 1 8 0;start 23;");
        due.is("of several the least", y.begin(0), 6);
        due.is("one hour of wrong", y.begin(1), 1);
        HatHours none = new HatHours();
        due.is("no boxes", none.begin(0), 0);
        due.is("no wrong", none.begin(1), 0);
    }

    private static void swap() {
        HatHours x = Due.told("veil 1 11 1 8 0;veil 3 10 1 8 0;veil 1 7 1 8 0;");
        due.is("places 0 and 2", x.swap(0), 2);
        due.is("wrong then", x.swap(1), 0);
        due.is("order stays", x.order(0, 0), 0);
        x.change(0, 2);
        due.is("by none", x.swap(0), HatHours.NONE);
        due.is("by none, how much", x.swap(1), HatHours.NONE);
        due.is("what 2", x.swap(2), HatHours.BAD);
        due.is("what -1", x.swap(-1), HatHours.BAD);
        due.is("one box", Due.told("veil 1 1 1 8 0;").swap(0), HatHours.NONE);
        due.is("no boxes", new HatHours().swap(1), HatHours.NONE);
        due.is("no better", Due.told("veil 1 1 1 8 0;veil 1 1 1 8 0;").swap(0), HatHours.NONE);
        // Behind others that are alike: places 1 and 2 alone help.
        HatHours y = Due.told("veil 1 7 9 8 0;veil 3 11 9 8 0;veil 1 8 9 8 0;");
        due.is("places 1 and 2", y.swap(0), 12);
        due.is("nothing wrong then", y.swap(1), 0);
    }

    private static void longer() {
        HatHours x = Due.told("veil 2 9 1 8 0;veil 3 11 1 8 0;veil 1 12 1 8 0;");
        due.is("1 more", x.longer(0), 1);
        due.is("none more", x.longer(1), 0);
        due.is("nor here", x.longer(2), 0);
        due.is("WORK stays", x.box(0, 1), 2);
        due.is("11 more", Due.told("veil 1 18 1 8 0;").longer(0), 11);
        due.is("12 more", Due.told("veil 1 19 1 8 0;").longer(0), HatHours.NONE);
        due.is("12 at most", Due.told("veil 12 19 1 8 0;").longer(0), HatHours.NONE);
        due.is("12 already", Due.told("veil 12 18 1 8 0;").longer(0), 0);
        due.is("box 3", x.longer(3), HatHours.BAD);
        due.is("box -1", x.longer(-1), HatHours.BAD);
    }

    private static void when() {
        // Done at 9, a bonnet: by it 9 to 12 o'clock.
        HatHours x = Due.told("bonnet 3 0 1 8 2;");
        due.is("11 at 15", x.when(0, 15, 11), 13);
        due.is("12 at 15: the first", x.when(0, 15, 12), 12);
        due.is("9 at 15", x.when(0, 15, 9), 15);
        due.is("13 at 15", x.when(0, 15, 13), HatHours.NONE);
        due.is("15 at 15, by none", x.when(0, 15, 15), 0);
        due.is("OPENED stays", x.box(0, 4), 8);
        // 11 at hour 1 would have been opened on the day before.
        due.is("day before", x.when(0, 1, 11), HatHours.NONE);
        // Another box in that room, opened later, tells what o'clock it is.
        HatHours y = Due.told("bonnet 3 0 1 8 2;veil 1 0 1 15 2;");
        due.is("behind the other", y.when(0, 15, 12), HatHours.NONE);
        due.is("by the other", y.when(0, 15, 10), 0);
        due.is("both at 15: the veil has the greater number", y.when(0, 15, 9), HatHours.NONE);
        due.is("box 1", x.when(1, 0, 0), HatHours.BAD);
        due.is("hour 24", x.when(0, 24, 0), HatHours.BAD);
        due.is("hour -1", x.when(0, -1, 0), HatHours.BAD);
        due.is("v 24", x.when(0, 0, 24), HatHours.BAD);
        due.is("v -1", x.when(0, 0, -1), HatHours.BAD);
    }

    private static void wake() {
        // Done at 1: a bridal yawns from its opening on; only hours ahead of 6, or few at the end, help.
        HatHours x = Due.told("bridal 1 0 1 10 0;start 0;");
        due.is("now", x.rule(4), 5);
        // By it 1 to 8 o'clock: 0 to 5 are its first 5 hours, opened at 0 or 1 they end at 5.
        due.is("at 0", x.wake(0, 0), 0);
        due.is("no yawns", x.wake(0, 1), 0);
        due.is("OPENED stays", x.box(0, 4), 10);
        // Another one that yawns: a bonnet, done at 3 and out from 12 to 15. A veil, done at 7, best hides its yawns.
        HatHours y = Due.told("bonnet 3 0 1 12 0;veil 4 0 1 0 0;start 0;");
        due.is("three yawns", y.rule(4), 3);
        due.is("at 12", y.wake(1, 0), 12);
        due.is("one yawn left", y.wake(1, 1), 1);
        due.is("box 2", y.wake(2, 0), HatHours.BAD);
        due.is("box -1", y.wake(-1, 0), HatHours.BAD);
        due.is("what 2", y.wake(0, 2), HatHours.BAD);
        due.is("what -1", y.wake(0, -1), HatHours.BAD);
    }

    private static void where() {
        HatHours y = Due.told("bonnet 3 0 1 12 3;veil 4 0 1 12 0;start 0;");
        due.is("three yawns", y.rule(4), 3);
        due.is("room 3", y.where(1, 0), 3);
        due.is("one yawn left", y.where(1, 1), 1);
        due.is("ROOM stays", y.box(1, 5), 0);
        due.is("room 0 is the first", y.where(0, 0), 0);
        due.is("under the veil one is left", y.where(0, 1), 1);
        due.is("box 2", y.where(2, 0), HatHours.BAD);
        due.is("box -1", y.where(-1, 0), HatHours.BAD);
        due.is("what 2", y.where(0, 2), HatHours.BAD);
        due.is("what -1", y.where(0, -1), HatHours.BAD);
        HatHours last = Due.told("bonnet 3 0 1 12 4;veil 4 0 1 12 0;start 0;");
        due.is("room 4", last.where(1, 0), 4);
        HatHours z = Due.told("veil 4 0 1 12 3;start 0;");
        due.is("none anywhere: the first", z.where(0, 0), 0);
    }
}
