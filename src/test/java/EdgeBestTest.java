/** The boundary cases of promises 18 to 24, by the promise's number. */
final class EdgeBestTest {
    private static final int BAD = HatHours.BAD, NONE = HatHours.NONE;
    /** By order all is done when it is wanted: at 1, 3, 6, 10, 15. */
    private static final String RIGHT = "veil 1 1 1 0 0;veil 2 3 1 0 0;veil 3 6 1 0 0;veil 4 10 1 0 0;veil 5 15 1 0 0;start 0;";
    private static final Due due = new Due("EdgeBestTest");

    public static void main(String[] args) {
        promise18EachNumberOfBoxes();
        promise18EachOrder();
        promise18OfSeveralTheFirst();
        promise19EachHour();
        promise19OfSeveralTheLeast();
        promise20EachTwoPlaces();
        promise20LessThanAsItIs();
        promise20OfSeveralTheLeast();
        promise21EachWorkAndHour();
        promise21TheOthersAhead();
        promise22TheFirst();
        promise22Midnight();
        promise22AllElseAsItIs();
        promise23TheFirst();
        promise23EndOfTheDay();
        promise24TheFirst();
        due.close();
    }

    private static void promise18EachNumberOfBoxes() {
        for (int boxes = 0; boxes <= 5; boxes++) {
            HatHours x = Due.told("start 0;" + RIGHT.substring(0, new int[] {0, 15, 30, 45, 61, 77}[boxes]));
            due.is("18 boxes", x.rule(0), boxes);
            due.is("18 WRONG of " + boxes, x.best(0), 0);
            for (int i = -1; i <= 6; i++) {
                due.is("18 place " + i + " of " + boxes, x.best(10 + i), i >= 0 && i < boxes ? i : BAD);
            }
            for (int what : new int[] {-1, 1, 5, 9, 15, Integer.MIN_VALUE, Integer.MAX_VALUE}) {
                due.is("18 what " + what, x.best(what), BAD);
            }
        }
        // The very last of all orders is the best: 4 3 2 1 0.
        HatHours last = Due.told("veil 1 15 1 0 0;veil 2 14 1 0 0;veil 3 12 1 0 0;veil 4 9 1 0 0;veil 5 5 1 0 0;start 0;");
        due.is("18 the last order", last.best(0), 0);
        for (int i = 0; i < 5; i++) {
            due.is("18 the last order, place " + i, last.best(10 + i), 4 - i);
        }
    }

    /** Each of the 120 orders is the best once: all is WANTED when it is done by that one alone. */
    private static void promise18EachOrder() {
        for (int turn = 0; turn < 120; turn++) {
            HatHours x = Due.told(RIGHT);
            int left = turn;
            for (int i = 0; i < 4; i++) {
                int with = i + left % (5 - i);
                left /= 5 - i;
                if (with != i) {
                    x.change(i, with);
                }
            }
            int[] order = new int[5];
            for (int i = 0; i < 5; i++) {
                order[i] = x.order(i, 0);
                x.alter(order[i], 2, x.order(i, 1));
            }
            x.change(0, 4);
            due.is("18 WRONG of order " + turn, x.best(0), 0);
            for (int i = 0; i < 5; i++) {
                due.is("18 place " + i + " of order " + turn, x.best(10 + i), order[i]);
            }
        }
    }

    private static void promise18OfSeveralTheFirst() {
        HatHours x = Due.told("veil 3 0 1 0 0;veil 3 0 1 0 0;veil 3 0 1 0 0;veil 3 0 1 0 0;veil 3 0 1 0 0;order 4 3 2 1 0;");
        for (int i = 0; i < 5; i++) {
            due.is("18 all alike, place " + i, x.best(10 + i), i);
            due.is("18 the order stays", x.order(i, 0), 4 - i);
        }
        // 1 and 2 may stand either way, 0 is to be the last.
        HatHours y = Due.told("veil 1 9 9 0 0;veil 1 8 1 0 0;veil 1 8 1 0 0;order 2 1 0;");
        due.is("18 WRONG", y.best(0), 1);
        due.is("18 the lesser first", y.best(10), 1);
        due.is("18 then the greater", y.best(11), 2);
        due.is("18 then the least", y.best(12), 0);
    }

    private static void promise19EachHour() {
        for (int wanted = 0; wanted < 24; wanted++) {
            HatHours x = Due.told("veil 12 " + wanted + " 9 0 0;");
            due.is("19 START for " + wanted, x.begin(0), (wanted + 12) % 24);
            due.is("19 WRONG for " + wanted, x.begin(1), 0);
            due.is("19 START stays", x.rule(1), 6);
        }
    }

    private static void promise19OfSeveralTheLeast() {
        // Done 1 and 2 behind START, wanted at 0 and 13: by so much as the one is better, the other is worse.
        HatHours x = Due.told("veil 1 0 1 0 0;veil 1 13 1 0 0;start 9;");
        due.is("19 twelve, whenever", x.begin(1), 12);
        due.is("19 the least", x.begin(0), 0);
        // 22 and 23 are as good: 22 is less.
        HatHours y = Due.told("veil 1 0 1 0 0;veil 1 0 1 0 0;");
        due.is("19 22 or 23", y.begin(0), 22);
        due.is("19 one hour", y.begin(1), 1);
        // 23 and 0 are as good: 0 is less.
        HatHours z = Due.told("veil 1 1 1 0 0;veil 1 1 1 0 0;");
        due.is("19 23 or 0", z.begin(0), 0);
        due.is("19 one hour too", z.begin(1), 1);
        due.is("19 no boxes", new HatHours().begin(0), 0);
    }

    private static void promise20EachTwoPlaces() {
        for (int i = 0; i < 5; i++) {
            for (int k = i + 1; k < 5; k++) {
                HatHours x = Due.told(RIGHT);
                x.change(i, k);
                due.is("20 " + i + " with " + k, x.swap(0), 10 * i + k);
                due.is("20 nothing wrong then", x.swap(1), 0);
                due.is("20 the order stays", x.order(i, 0), k);
            }
        }
    }

    private static void promise20LessThanAsItIs() {
        HatHours x = Due.told(RIGHT);
        due.is("20 nothing is wrong", x.swap(0), NONE);
        due.is("20 nothing is wrong, how much", x.swap(1), NONE);
        HatHours alike = Due.told("veil 2 0 3 0 0;veil 2 0 3 0 0;veil 2 0 3 0 0;");
        due.is("20 as wrong as it is", alike.swap(0), NONE);
        HatHours one = Due.told("veil 2 0 3 0 0;");
        due.is("20 one place", one.swap(0), NONE);
        due.is("20 no place", new HatHours().swap(0), NONE);
        // Least by one hour: wanted 9 of the first and 8 of the second, of which the second is worth more.
        HatHours two = Due.told("veil 2 9 1 0 0;veil 1 8 2 0 0;");
        due.is("20 by how much", two.rule(3), 3);
        due.is("20 changed", two.swap(0), 1);
        due.is("20 by how much then", two.swap(1), 2);
    }

    private static void promise20OfSeveralTheLeast() {
        // 0 with 1, or 2 with 3: either leaves 2 of 4.
        HatHours x = Due.told("veil 1 2 1 0 0;veil 1 1 1 0 0;veil 1 4 1 0 0;veil 1 3 1 0 0;start 0;");
        due.is("20 as it is", x.rule(3), 4);
        due.is("20 the least of two", x.swap(0), 1);
        due.is("20 WRONG of either", x.swap(1), 2);
        // The later one is less wrong: not the least number but the least WRONG.
        x.alter(2, 3, 2);
        due.is("20 the better of two", x.swap(0), 23);
        due.is("20 WRONG of it", x.swap(1), 2);
    }

    /** One BOX from START 6 on: each WORK, each hour WANTED. */
    private static void promise21EachWorkAndHour() {
        for (int work = 1; work <= 12; work++) {
            for (int wanted = 0; wanted < 24; wanted++) {
                HatHours x = Due.told("veil " + work + " " + wanted + " 1 0 0;");
                int needed = wanted - 6;
                boolean may = needed >= work && needed <= 12;
                due.is("21 WORK " + work + " for " + wanted, x.longer(0), may ? needed - work : NONE);
                due.is("21 WORK stays", x.box(0, 1), work);
            }
        }
    }

    private static void promise21TheOthersAhead() {
        HatHours x = Due.told("veil 1 0 1 0 0;veil 1 1 1 0 0;veil 1 23 1 0 0;order 2 1 0;start 20;");
        due.is("21 over midnight", x.longer(0), 1);
        due.is("21 the one ahead", x.longer(1), 3);
        due.is("21 the first", x.longer(2), 2);
        due.is("21 no such", x.longer(3), BAD);
        HatHours y = Due.told("veil 1 18 1 0 0;veil 2 20 1 0 0;");
        due.is("21 11 at most", y.longer(0), 11);
        due.is("21 11 for a WORK of 2 would be 13", y.longer(1), NONE);
        y.alter(1, 2, 19);
        due.is("21 10 at most for a WORK of 2", y.longer(1), 10);
    }

    private static void promise22TheFirst() {
        // Done at 0, lasting 8: at 12 it may be 0 to 7 o'clock, or 12 by none.
        HatHours x = Due.told("bridal 12 0 1 12 3;start 12;");
        for (int v = 0; v < 24; v++) {
            due.is("22 at 12 it is " + v, x.when(0, 12, v), v < 8 ? 12 - v : v == 12 ? 0 : NONE);
        }
        due.is("22 OPENED stays", x.box(0, 4), 12);
        // Opened at 0 it is over by 8; by none it is 8 o'clock then, the first.
        due.is("22 at 8", x.when(0, 8, 8), 0);
        due.is("22 at 7 by none: opened behind it", x.when(0, 7, 7), 0);
    }

    private static void promise22Midnight() {
        HatHours x = Due.told("bridal 12 0 1 12 3;start 12;");
        due.is("22 in the hour 0 its own hour", x.when(0, 0, 0), 0);
        due.is("22 in the hour 0, an hour later", x.when(0, 0, 1), NONE);
        due.is("22 in the hour 7, the longest", x.when(0, 7, 7), 0);
        due.is("22 in the hour 6, what it can not be", x.when(0, 6, 7), NONE);
        due.is("22 in the hour 23, its own hour", x.when(0, 23, 0), 23);
        due.is("22 in the hour 23, the longest", x.when(0, 23, 7), 16);
        due.is("22 in the hour 23 by none", x.when(0, 23, 23), 0);
        HatHours late = Due.told("veil 1 0 1 5 0;start 22;");
        due.is("22 23 o'clock in the hour 0, by the box", late.when(0, 0, 23), 0);
        due.is("22 0 o'clock in the hour 1: opened at 0", late.when(0, 1, 0), 0);
        due.is("22 0 o'clock in the hour 0 by none: opened at 1", late.when(0, 0, 0), 1);
    }

    private static void promise22AllElseAsItIs() {
        HatHours x = Due.told("bridal 2 0 1 4 3;veil 1 0 1 9 3;bridal 1 0 1 4 2;");
        // The veil, done at 9, is out at 9 and 10; opened at 10, the bridal, done at 8, is the later.
        due.is("22 behind the veil", x.when(0, 10, 9), NONE);
        due.is("22 the later opened", x.when(0, 10, 8), 10);
        due.is("22 at one hour: the veil has the greater number", x.when(0, 9, 8), NONE);
        due.is("22 by the veil, wherever", x.when(0, 10, 10), 0);
        due.is("22 the veil, at one hour with the bridal", x.when(1, 4, 9), 4);
        due.is("22 the bridal hidden no more", x.when(1, 6, 10), 0);
        due.is("22 another room does not matter", x.when(2, 10, 15), 5);
    }

    private static void promise23TheFirst() {
        // No yawns wherever it is opened: the first of all.
        HatHours x = Due.told("veil 2 0 1 20 1;");
        due.is("23 none anywhere", x.wake(0, 1), 0);
        due.is("23 the hour 0", x.wake(0, 0), 0);
        // Done at 0, for eight hours: opened at 0 it is 6 o'clock in the hour 6, so none yawns; later some would.
        HatHours y = Due.told("bridal 12 0 1 8 1;start 12;");
        due.is("23 now", y.rule(4), 6);
        due.is("23 the hour 0 too", y.wake(0, 0), 0);
        due.is("23 none then", y.wake(0, 1), 0);
        due.is("23 OPENED stays", y.box(0, 4), 8);
        // Done at 22: opened at 0 it is 4 and 5 o'clock in 6 and 7; over midnight it is 22 and 23 in the last two.
        HatHours z = Due.told("bridal 10 0 1 8 1;start 12;");
        due.is("23 opened at 22", z.wake(0, 0), 22);
        due.is("23 no yawns at the end of the day", z.wake(0, 1), 0);
    }

    private static void promise23EndOfTheDay() {
        // Two yawn in all, each in its own room: what is fewest is of all rooms.
        HatHours x = Due.told("veil 2 0 1 20 1;veil 1 0 1 20 2;start 0;");
        due.is("23 now", x.rule(4), 4);
        due.is("23 the other's are left", x.wake(0, 1), 2);
        due.is("23 ahead of 6", x.wake(0, 0), 0);
        // The one that yawns is out in the hour 23 alone; the other, done at 6, hides it if opened as late.
        HatHours y = Due.told("veil 12 0 1 23 0;veil 6 0 1 0 0;start 12;");
        due.is("23 one yawn at 23", y.rule(4), 1);
        due.is("23 hidden", y.wake(1, 1), 0);
        due.is("23 opened at 23, of the greater number", y.wake(1, 0), 23);
        due.is("23 the other, of the lesser number", y.wake(0, 0), 0);
    }

    private static void promise24TheFirst() {
        HatHours x = Due.told("veil 2 0 1 20 3;start 0;");
        due.is("24 as many wherever", x.where(0, 1), 2);
        due.is("24 the first room", x.where(0, 0), 0);
        due.is("24 ROOM stays", x.box(0, 5), 3);
        // A box of a greater number hides it in room 4 alone.
        HatHours y = Due.told("veil 2 0 1 20 3;veil 4 0 1 20 4;start 0;");
        due.is("24 the last room", y.where(0, 0), 4);
        due.is("24 none then", y.where(0, 1), 0);
        due.is("24 the other hides it", y.where(1, 0), 3);
        due.is("24 none then either", y.where(1, 1), 0);
        due.is("24 no such", y.where(2, 0), BAD);
        HatHours five = Due.told("veil 1 0 1 9 0;veil 1 0 1 9 1;veil 1 0 1 9 2;veil 1 0 1 9 3;veil 1 0 1 9 4;start 0;");
        // Done at 1 to 5: two yawns each, but the last has one; wherever that goes it hides two and yawns once.
        due.is("24 nine yawns", five.rule(4), 9);
        due.is("24 the last, to the first room", five.where(4, 0), 0);
        due.is("24 seven are left", five.where(4, 1), 7);
        due.is("24 the first goes under another", five.where(0, 0), 1);
        due.is("24 two less", five.where(0, 1), 7);
    }
}
