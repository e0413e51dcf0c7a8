/** The boundary cases of promises 25 and 26, by the promise's number. */
final class EdgeOddsTest {
    private static final int BAD = HatHours.BAD;
    private static final String FIVE = "veil 12 0 9 0 0;veil 12 0 9 0 0;veil 12 0 9 0 0;veil 12 0 9 0 0;veil 12 0 9 0 0;";
    private static final Due due = new Due("EdgeOddsTest");

    public static void main(String[] args) {
        promise25NeverAndAlways();
        promise25EachOdds();
        promise25MoreThanTwelve();
        promise25ByThoseAheadAlone();
        promise26NeverAndAlways();
        promise26LowestTerms();
        promise26RoundTheClock();
        numbers();
        due.close();
    }

    private static void lucky(String call, HatHours x, int v, int b, long upper, long lower) {
        due.is("25 " + call + ", upper", x.luck(v, b, 0), upper);
        due.is("25 " + call + ", lower", x.luck(v, b, 1), lower);
    }

    private static void meant(String call, HatHours x, int v, long upper, long lower) {
        due.is("26 " + call + ", upper", x.mean(v, 0), upper);
        due.is("26 " + call + ", lower", x.mean(v, 1), lower);
    }

    private static void promise25NeverAndAlways() {
        HatHours x = Due.told(FIVE + "start 0;");
        for (int b = 0; b < 5; b++) {
            int own = 12 * (b + 1) % 24;
            x.alter(b, 2, own);
            lucky("never, as it is " + b, x, 0, b, 1, 1);
            lucky("always, as it is " + b, x, 10, b, 0, 1);
            x.alter(b, 2, (own + b + 1) % 24);
            lucky("never, an hour for each " + b, x, 0, b, 0, 1);
            lucky("always, an hour for each " + b, x, 10, b, 1, 1);
            x.alter(b, 2, (own + b + 2) % 24);
            lucky("one more than there are " + b, x, 5, b, 0, 1);
            x.alter(b, 2, (own + 23) % 24);
            lucky("one less " + b, x, 5, b, 0, 1);
        }
    }

    private static void promise25EachOdds() {
        HatHours x = Due.told("veil 1 8 1 0 0;");
        long[] upper = {0, 1, 1, 3, 2, 1, 3, 7, 4, 9, 1};
        long[] lower = {1, 10, 5, 10, 5, 2, 5, 10, 5, 10, 1};
        for (int v = 0; v <= 10; v++) {
            lucky("by " + v, x, v, 0, upper[v], lower[v]);
        }
    }

    private static void promise25MoreThanTwelve() {
        HatHours x = Due.told("veil 12 1 1 0 0;start 12;");
        lucky("13 hours, past midnight", x, 7, 0, 7, 10);
        HatHours five = Due.told(FIVE + "start 23;");
        // Done 60 behind 23, at 11; with five more at 16.
        five.alter(4, 2, 16);
        lucky("all five", five, 9, 4, 59049, 100000);
        lucky("all five by one of ten", five, 1, 4, 1, 100000);
        lucky("all five by half", five, 5, 4, 1, 32);
        five.alter(4, 2, 11);
        lucky("none of five", five, 1, 4, 59049, 100000);
    }

    private static void promise25ByThoseAheadAlone() {
        HatHours x = Due.told("veil 1 7 1 0 0;veil 1 8 1 0 0;veil 1 9 1 0 0;order 2 1 0;");
        // 2 is done at 7, 1 at 8, 0 at 9, or later.
        x.alter(2, 2, 7);
        lucky("the first place", x, 3, 2, 7, 10);
        lucky("the second place", x, 3, 1, 49, 100);
        x.alter(0, 2, 9);
        lucky("the third place", x, 3, 0, 343, 1000);
    }

    private static void promise26NeverAndAlways() {
        HatHours x = Due.told(FIVE + "start 0;");
        meant("never", x, 0, x.rule(3), 1);
        // Done at 12, 0, 12, 0, 12; always: at 13, 2, 15, 4, 17.
        meant("never, once more", x, 0, 324, 1);
        meant("always", x, 10, 9 * (11 + 2 + 9 + 4 + 7), 1);
        HatHours none = new HatHours();
        for (int v = 0; v <= 10; v++) {
            meant("no boxes by " + v, none, v, 0, 1);
        }
        HatHours right = Due.told("veil 1 7 9 0 0;");
        meant("nothing wrong", right, 0, 0, 1);
        meant("an hour", right, 10, 9, 1);
    }

    private static void promise26LowestTerms() {
        HatHours x = Due.told("veil 1 7 1 0 0;");
        long[] upper = {0, 1, 1, 3, 2, 1, 3, 7, 4, 9, 1};
        long[] lower = {1, 10, 5, 10, 5, 2, 5, 10, 5, 10, 1};
        for (int v = 0; v <= 10; v++) {
            meant("by " + v, x, v, upper[v], lower[v]);
        }
        x.alter(0, 3, 5);
        meant("whole, 5 times 4 of ten", x, 4, 2, 1);
        meant("5 times 3 of ten", x, 3, 3, 2);
    }

    private static void promise26RoundTheClock() {
        // Done at 18 or 19 for 7: 11 or 12 apart. Done at 19 or 20: 12 or 11 apart.
        meant("towards the farthest", Due.told("veil 12 7 1 0 0;"), 3, 113, 10);
        meant("beyond the farthest", Due.told("veil 12 7 1 0 0;start 7;"), 3, 117, 10);
        // Done at 23 or 0 for 0 and for 23.
        meant("to midnight", Due.told("veil 1 0 1 0 0;start 22;"), 3, 7, 10);
        meant("past midnight", Due.told("veil 1 23 1 0 0;start 22;"), 3, 3, 10);
        // Each is done when it is wanted, but for what is longer up to it: by half 1, 2, 3, 4, 5 times a half.
        HatHours five = Due.told("veil 1 7 1 0 0;veil 1 8 1 0 0;veil 1 9 1 0 0;veil 1 10 1 0 0;veil 1 11 1 0 0;");
        meant("five by half", five, 5, 15, 2);
        meant("five by one of ten", five, 1, 3, 2);
    }

    private static void numbers() {
        HatHours x = Due.told("veil 1 7 1 0 0;");
        for (int v = -1; v <= 11; v++) {
            for (int what = -1; what <= 2; what++) {
                boolean fit = v >= 0 && v <= 10 && what >= 0 && what <= 1;
                due.is("25 luck " + v + " what " + what, x.luck(v, 0, what) == BAD ? 1 : 0, fit ? 0 : 1);
                due.is("26 mean " + v + " what " + what, x.mean(v, what) == BAD ? 1 : 0, fit ? 0 : 1);
                due.is("25 no such box", x.luck(v, 1, what), BAD);
                due.is("25 box below", x.luck(v, -1, what), BAD);
            }
        }
        due.is("25 no boxes", new HatHours().luck(5, 0, 0), BAD);
    }
}
