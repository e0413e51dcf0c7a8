/** The boundary cases of promises 9 to 12, by the promise's number. */
final class EdgeChangeTest {
    private static final int BAD = HatHours.BAD, FULL = HatHours.FULL;
    private static final String FIVE = "veil 1 1 1 1 1;veil 2 1 1 1 1;veil 3 1 1 1 1;veil 4 1 1 1 1;veil 5 1 1 1 1;";
    private static final Due due = new Due("EdgeChangeTest");

    public static void main(String[] args) {
        promise9EachNumber();
        promise9OneFactOfOneBox();
        promise10EachHour();
        promise11EachTwoPlaces();
        promise12EachNumber();
        promise12Full();
        promise12SpaceAgain();
        due.close();
    }

    private static void promise9EachNumber() {
        int[] least = {0, 1, 0, 1, 0, 0};
        int[] most = {3, 12, 23, 9, 23, 4};
        for (int what = -1; what <= 6; what++) {
            HatHours x = Due.told(FIVE);
            for (int v = -2; v <= 25; v++) {
                boolean within = what >= 0 && what <= 5 && v >= least[what] && v <= most[what];
                int was = x.box(4, Math.max(0, Math.min(5, what)));
                due.is("9 fact " + what + " becomes " + v, x.alter(4, what, v), within ? was : BAD);
                if (what >= 0 && what <= 5) {
                    due.is("9 fact " + what + " is", x.box(4, what), within ? v : was);
                }
            }
        }
        due.is("9 the 6th box", Due.told(FIVE).alter(5, 0, 0), BAD);
    }

    private static void promise9OneFactOfOneBox() {
        HatHours x = Due.told(FIVE);
        due.is("9 to what it is", x.alter(2, 1, 3), 3);
        for (int b = 0; b < 5; b++) {
            x.alter(b, 4, 20 + b % 4);
        }
        int[] facts = {1, 0, 1, 1, 0, 1};
        for (int b = 0; b < 5; b++) {
            facts[1] = b + 1;
            facts[4] = 20 + b % 4;
            for (int what = 0; what <= 5; what++) {
                due.is("9 fact " + what + " of " + b, x.box(b, what), what == 2 ? 1 : facts[what]);
            }
        }
    }

    private static void promise10EachHour() {
        HatHours x = new HatHours();
        int was = 6;
        for (int v = -2; v <= 25; v++) {
            boolean within = v >= 0 && v <= 23;
            due.is("10 start " + v, x.start(v), within ? was : BAD);
            was = within ? v : was;
            due.is("10 is", x.rule(1), was);
        }
    }

    private static void promise11EachTwoPlaces() {
        for (int i = -1; i <= 5; i++) {
            for (int k = -1; k <= 5; k++) {
                HatHours x = Due.told(FIVE + "order 4 3 2 1 0;");
                boolean fit = i >= 0 && i < 5 && k >= 0 && k < 5 && i != k;
                due.is("11 change " + i + " " + k, x.change(i, k), fit ? 4 - i : BAD);
                for (int p = 0; p < 5; p++) {
                    int from = !fit ? p : p == i ? k : p == k ? i : p;
                    due.is("11 place " + p + " behind change " + i + " " + k, x.order(p, 0), 4 - from);
                }
            }
        }
        HatHours one = Due.told("veil 1 1 1 1 1;");
        due.is("11 one box has one place", one.change(0, 1), BAD);
        due.is("11 and no two", one.change(0, 0), BAD);
    }

    private static void promise12EachNumber() {
        for (int kind = -1; kind <= 4; kind++) {
            for (int work = -1; work <= 13; work++) {
                for (int wanted = -1; wanted <= 24; wanted++) {
                    HatHours x = new HatHours();
                    boolean fit = kind >= 0 && kind <= 3 && work >= 1 && work <= 12 && wanted >= 0 && wanted <= 23;
                    due.is("12 sew " + kind + " " + work + " " + wanted, x.sew(kind, work, wanted), fit ? 1 : BAD);
                    due.is("12 boxes", x.rule(0), fit ? 1 : 0);
                }
            }
        }
    }

    private static void promise12Full() {
        HatHours x = Due.told(FIVE.substring(0, 60) + "order 3 2 1 0;");
        due.is("12 the 5th", x.sew(3, 12, 23), 5);
        due.is("12 it is the last", x.order(4, 0), 4);
        due.is("12 the first stays", x.order(0, 0), 3);
        due.is("12 the 6th", x.sew(3, 12, 23), FULL);
        due.is("12 the 6th again", x.sew(0, 1, 0), FULL);
        due.is("12 the 6th, not as told", x.sew(0, 0, 0), BAD);
        due.is("12 five", x.rule(0), 5);
        due.is("12 all WORK", x.rule(2), 22);
        due.is("12 all WORTH", x.count(4), 5);
    }

    private static void promise12SpaceAgain() {
        HatHours x = new HatHours();
        x.keep(0);
        for (int i = 1; i <= 5; i++) {
            due.is("12 the " + i + "th", x.sew(1, i, i), i);
        }
        x.alter(0, 3, 9);
        x.alter(0, 4, 23);
        x.alter(0, 5, 4);
        due.is("12 as there were none", x.back(0), 6);
        due.is("12 the first once more", x.sew(2, 7, 7), 1);
        int[] facts = {2, 7, 7, 1, 8, 0};
        for (int what = 0; what < facts.length; what++) {
            due.is("12 fact " + what + " of a new one", x.box(0, what), facts[what]);
        }
        due.is("12 its place", x.box(0, 9), 0);
        HatHours y = Due.told(FIVE + "order 4;");
        due.is("12 full by a text", y.sew(0, 1, 0), FULL);
        Due.tell(y, "@");
        due.is("12 full yet, the text was refused", y.sew(0, 1, 0), FULL);
        Due.tell(y, "");
        due.is("12 space by the empty text", y.sew(2, 7, 7), 1);
        for (int what = 0; what < facts.length; what++) {
            due.is("12 fact " + what + " is not what another had", y.box(0, what), facts[what]);
        }
        due.is("12 nor its place", y.order(0, 0), 0);
    }
}
