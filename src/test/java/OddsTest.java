/** Promises 25 and 26: work that takes longer. */
final class OddsTest {
    private static final Due due = new Due("OddsTest");

    public static void main(String[] args) {
        luck();
        luckOfLaterPlaces();
        mean();
        wrongNumbers();
        due.close();
    }

    private static void fraction(String call, long upper, long lower, long wantUpper, long wantLower) {
        due.is(call + " upper", upper, wantUpper);
        due.is(call + " lower", lower, wantLower);
    }

    private static void lucky(String call, HatHours x, int v, int b, long upper, long lower) {
        fraction(call, x.luck(v, b, 0), x.luck(v, b, 1), upper, lower);
    }

    private static void meant(String call, HatHours x, int v, long upper, long lower) {
        fraction(call, x.mean(v, 0), x.mean(v, 1), upper, lower);
    }

    private static void luck() {
        HatHours x = Due.told("veil 2 9 1 0 0;");
        lucky("3 of ten", x, 3, 0, 3, 10);
        lucky("4 of ten", x, 4, 0, 2, 5);
        lucky("never", x, 0, 0, 0, 1);
        lucky("always", x, 10, 0, 1, 1);
        HatHours y = Due.told("veil 2 8 1 0 0;");
        lucky("as it is", y, 3, 0, 7, 10);
        HatHours z = Due.told("veil 2 7 1 0 0;");
        lucky("by no odds", z, 3, 0, 0, 1);
        lucky("more than 12", Due.told("veil 12 19 1 0 0;"), 10, 0, 1, 1);
        lucky("midnight", Due.told("veil 12 0 1 0 0;start 11;"), 6, 0, 3, 5);
    }

    private static void luckOfLaterPlaces() {
        HatHours two = Due.told("veil 2 11 1 0 0;veil 2 9 1 0 0;order 1 0;");
        lucky("one of two", two, 3, 0, 21, 50);
        lucky("half", two, 5, 0, 1, 2);
        lucky("the first place alone", two, 3, 1, 3, 10);
        HatHours five = Due.told("veil 1 0 1 0 0;veil 1 0 1 0 0;veil 1 0 1 0 0;veil 1 0 1 0 0;veil 1 13 1 0 0;");
        lucky("two of five", five, 3, 4, 3087, 10000);
        five.alter(4, 2, 16);
        lucky("five of five", five, 1, 4, 1, 100000);
        five.alter(4, 2, 17);
        lucky("six of five", five, 1, 4, 0, 1);
    }

    private static void mean() {
        meant("one box", Due.told("veil 2 9 3 0 0;"), 4, 9, 5);
        HatHours two = Due.told("veil 1 7 1 0 0;veil 1 8 1 0 0;");
        meant("two boxes", two, 5, 3, 2);
        meant("two boxes, never", two, 0, 0, 1);
        meant("two boxes, always", two, 10, 3, 1);
        meant("two boxes, 1 of ten", two, 1, 3, 10);
        meant("no boxes", new HatHours(), 5, 0, 1);
        // 12 apart is as wrong as it gets: an hour more is less wrong.
        meant("round the clock", Due.told("veil 1 19 1 0 0;"), 5, 23, 2);
    }

    private static void wrongNumbers() {
        HatHours x = Due.told("veil 2 9 1 0 0;");
        due.is("luck v -1", x.luck(-1, 0, 0), HatHours.BAD);
        due.is("luck v 11", x.luck(11, 0, 0), HatHours.BAD);
        due.is("luck box 1", x.luck(5, 1, 0), HatHours.BAD);
        due.is("luck box -1", x.luck(5, -1, 0), HatHours.BAD);
        due.is("luck what 2", x.luck(5, 0, 2), HatHours.BAD);
        due.is("luck what -1", x.luck(5, 0, -1), HatHours.BAD);
        due.is("mean v -1", x.mean(-1, 0), HatHours.BAD);
        due.is("mean v 11", x.mean(11, 0), HatHours.BAD);
        due.is("mean what 2", x.mean(5, 2), HatHours.BAD);
        due.is("mean what -1", x.mean(5, -1), HatHours.BAD);
    }
}
