/** The boundary cases of promises 34 to 40, by the promise's number. */
final class EdgeSheetTest {
    private static final int BAD = HatHours.BAD, STATE = HatHours.STATE, NONE = HatHours.NONE;
    private static final Due due = new Due("EdgeSheetTest");

    public static void main(String[] args) {
        promise34WhetherThereWasOne();
        promise34NothingIsAnImageToo();
        promise35AllOfIt();
        promise35WhatIsNoPartOfIt();
        promise36EachSize();
        promise36NewRow();
        promise37EachCell();
        promise37LowestBits();
        promise38HowManyTimes();
        promise38FromCellOn();
        promise38Whole();
        promise38TheMachineRefuses();
        promise38SewRefuses();
        promise38TheFirstMet();
        promise38AsBySew();
        promise39CameToAnEnd();
        promise40EachCount();
        due.close();
    }

    private static void row(HatHours x, int k, int lane, int... cells) {
        x.sheet(k, lane, cells.length);
        for (int i = 0; i < cells.length; i++) {
            x.lay(k, i, cells[i]);
        }
    }

    /** Ones all over: bonnets or veils of any three CELLS. */
    private static void ones(HatHours x, int k, int lane, int cells) {
        x.sheet(k, lane, cells);
        for (int i = 0; i < cells; i++) {
            x.lay(k, i, 1);
        }
    }

    private static void promise34WhetherThereWasOne() {
        HatHours x = new HatHours();
        due.is("34 the first of 1", x.keep(1), 0);
        due.is("34 the second of 1", x.keep(1), 1);
        due.is("40 one image", x.count(1), 1);
        due.is("34 the first of 0", x.keep(0), 0);
        due.is("34 the second of 0", x.keep(0), 1);
        due.is("40 two images", x.count(1), 2);
        due.is("34 below", x.keep(-1), BAD);
        due.is("34 above", x.keep(2), BAD);
        due.is("35 below", x.back(-1), BAD);
        due.is("35 above", x.back(2), BAD);
        x.back(0);
        due.is("34 there is one yet", x.keep(0), 1);
        x.text();
        due.is("34 gone by a text", x.keep(0), 0);
        due.is("35 the other is gone too", x.back(1), STATE);
        Due.tell(x, "@");
        due.is("34 not by a refused text", x.keep(0), 1);
    }

    private static void promise34NothingIsAnImageToo() {
        HatHours x = new HatHours();
        x.start(0);
        due.is("34 of no boxes", x.keep(0), 0);
        x.sew(1, 1, 1);
        x.see(0, 0, 0);
        due.is("35 START 0", x.back(0), 0);
        due.is("35 no boxes", x.rule(0), 0);
        due.is("35 nothing SEEN", x.count(0), 0);
    }

    private static void promise35AllOfIt() {
        HatHours x = Due.told("veil 1 0 1 0 0;toque 2 3 4 5 1;bridal 12 23 9 23 4;order 2 0 1;start 23;");
        for (int i = 0; i < 6; i++) {
            x.see(4, i, i);
        }
        x.keep(1);
        for (int b = 0; b < 3; b++) {
            for (int what = 0; what <= 5; what++) {
                x.alter(b, what, 2);
            }
        }
        x.change(0, 2);
        x.start(1);
        x.forget(0);
        x.see(0, 1, 5);
        due.is("35 START", x.back(1), 23);
        int[][] facts = {{1, 1, 0, 1, 0, 0}, {2, 2, 3, 4, 5, 1}, {3, 12, 23, 9, 23, 4}};
        int[] places = {2, 0, 1};
        for (int b = 0; b < 3; b++) {
            for (int what = 0; what <= 5; what++) {
                due.is("35 fact " + what + " of " + b, x.box(b, what), facts[b][what]);
            }
            due.is("35 place " + b, x.order(b, 0), places[b]);
        }
        due.is("35 six SEEN", x.count(0), 6);
        due.is("35 as they were SEEN", x.starts(), 0xFFFFFF);
        due.is("35 image 0 is another", x.back(0), STATE);
    }

    private static void promise35WhatIsNoPartOfIt() {
        HatHours x = new HatHours();
        x.keep(0);
        x.sheet(0, 0, 5);
        Due.feed(x, "abc");
        Due.tell(x, "");
        x.keep(0);
        Due.feed(x, "abc");
        x.read(1, 0, 0, 1);
        x.keep(1);
        x.back(0);
        due.is("35 THE TAPE stays", x.count(2), 3);
        due.is("35 SHEETS stay", x.count(3), 5);
        due.is("35 torn stays", x.torn(), 1);
        due.is("35 the fault stays", x.fault(), 2);
        due.is("35 the other image stays", x.count(1), 2);
    }

    private static void promise36EachSize() {
        for (int lane = -1; lane <= 3; lane++) {
            for (int n = -2; n <= 42; n++) {
                HatHours x = new HatHours();
                boolean known = lane >= 0 && lane <= 2 && n <= 40;
                due.is("36 lane " + lane + " n " + n, x.sheet(0, lane, n), !known ? BAD : n < 0 ? -14 : 1);
                due.is("40 cells of lane " + lane + " n " + n, x.count(3), known && n >= 0 ? n : NONE);
            }
        }
        for (int k = -1; k <= 4; k++) {
            due.is("36 k " + k, new HatHours().sheet(k, 0, 40), k >= 0 && k <= 3 ? 1 : BAD);
            due.is("36 k " + k + " n -1", new HatHours().sheet(k, 0, -1), k >= 0 && k <= 3 ? -14 : BAD);
        }
        due.is("36 least int", new HatHours().sheet(0, 0, Integer.MIN_VALUE), -14);
        due.is("36 greatest int", new HatHours().sheet(0, 0, Integer.MAX_VALUE), BAD);
    }

    private static void promise36NewRow() {
        HatHours x = new HatHours();
        ones(x, 1, 0, 40);
        x.sheet(1, 0, 3);
        due.is("36 all 0: no WORK", x.read(1, 0, 0, 1), -20);
        x.lay(1, 1, 12);
        due.is("36 all 0 but one", x.read(1, 0, 0, 1), 1);
        due.is("36 KIND 0", x.box(0, 0), 0);
        due.is("36 WANTED 0", x.box(0, 2), 0);
        x.sheet(1, 0, 40);
        due.is("36 all 0, to the last", x.read(1, 0, 37, 1), -20);
        ones(x, 1, 2, 6);
        due.is("36 refused", x.sheet(1, 1, -1), -14);
        due.is("36 refused, n 41", x.sheet(1, 1, 41), BAD);
        due.is("36 the row stays, and its lane", x.read(1, 2, 3, 1), 1);
        due.is("36 as it was", x.box(1, 0), 1);
        ones(x, 0, 1, 3);
        x.sheet(1, 1, 0);
        due.is("36 another sheet stays", x.read(0, 1, 0, 1), 1);
    }

    private static void promise37EachCell() {
        for (int lane = 0; lane < 3; lane++) {
            for (int n : new int[] {0, 1, 39, 40}) {
                HatHours x = new HatHours();
                x.sheet(3, lane, n);
                for (int i : new int[] {Integer.MIN_VALUE, -1, 0, n - 1, n, 40, Integer.MAX_VALUE}) {
                    due.is("37 cell " + i + " of " + n, x.lay(3, i, 1), i >= 0 && i < n ? 1 : -12);
                }
                due.is("37 another sheet is nothing", x.lay(2, 0, 1), -11);
                due.is("37 k 4", x.lay(4, 0, 1), BAD);
                due.is("37 k -1", x.lay(-1, 0, 1), BAD);
            }
        }
        HatHours x = new HatHours();
        for (int i : new int[] {Integer.MIN_VALUE, -1, 0, 40, Integer.MAX_VALUE}) {
            due.is("37 nothing has no cell " + i, x.lay(0, i, 1), -11);
        }
    }

    /** Each v as a WORK: its lowest 8, 16 or all bits are taken, the highest of them as a sign. */
    private static void promise37LowestBits() {
        int[] all = {1, 12, 13, 0, -1, 127, 128, 255, 256, 257, 268, 269, -255, -244, -256, 32767, 32768, 65535, 65536,
            65537, 65548, 65549, -65535, -65536, 1 << 31 | 1, 1 << 24 | 5, Integer.MAX_VALUE, Integer.MIN_VALUE};
        for (int v : all) {
            for (int lane = 0; lane < 3; lane++) {
                HatHours x = new HatHours();
                row(x, 2, lane, 0, v, 0);
                int work = lane == 0 ? (byte) v : lane == 1 ? (short) v : v;
                boolean fit = work >= 1 && work <= 12;
                due.is("37 " + v + " in lane " + lane, x.read(2, lane, 0, 1), fit ? 1 : -20);
                due.is("37 " + v + " in lane " + lane + " as WORK", x.box(0, 1), fit ? work : BAD);
            }
        }
    }

    private static void promise38HowManyTimes() {
        for (int n = -1; n <= 14; n++) {
            HatHours x = new HatHours();
            ones(x, 0, 0, 40);
            int answer = n < 0 || n > 13 ? BAD : n <= 5 ? n : -25;
            due.is("38 n " + n, x.read(0, 0, 0, n), answer);
            due.is("38 boxes of n " + n, x.rule(0), Math.max(0, answer));
            due.is("39 of n " + n, x.torn(), 0);
        }
        HatHours x = new HatHours();
        ones(x, 0, 0, 39);
        due.is("38 no time, from no cell", x.read(0, 0, -7, 0), 0);
        due.is("39 nothing was read", x.torn(), 0);
        due.is("38 no time, of nothing", x.read(1, 0, 0, 0), 0);
        due.is("39 nothing was read of nothing", x.torn(), 0);
        due.is("38 the 13th of 13", x.read(0, 0, 36, 1), 1);
        due.is("38 no 14th", x.read(0, 0, 39, 1), 0);
        due.is("39 INDEX", x.torn(), 2);
    }

    private static void promise38FromCellOn() {
        for (int lane = 0; lane < 3; lane++) {
            for (int f : new int[] {Integer.MIN_VALUE, -3, -2, -1, 0, 1, 37, 38, 39, 40, Integer.MAX_VALUE - 2,
                Integer.MAX_VALUE}) {
                HatHours x = new HatHours();
                ones(x, 3, lane, 40);
                boolean there = f >= 0 && f <= 37;
                due.is("38 from " + f, x.read(3, lane, f, 1), there ? 1 : 0);
                due.is("39 from " + f, x.torn(), there ? 0 : 2);
                due.is("38 from " + f + " thirteen times", x.read(3, lane, f, 13), there ? f == 37 ? 1 : -24 : 0);
            }
        }
        HatHours y = new HatHours();
        row(y, 0, 1, 9, 9, 3, 5, 7, 9);
        due.is("38 from the third cell on", y.read(0, 1, 2, 1), 1);
        due.is("38 KIND", y.box(0, 0), 3);
        due.is("38 WORK", y.box(0, 1), 5);
        due.is("38 WANTED", y.box(0, 2), 7);
    }

    private static void promise38Whole() {
        for (int cells = 0; cells <= 12; cells++) {
            HatHours x = new HatHours();
            ones(x, 0, 2, cells);
            due.is("38 " + cells + " cells", x.read(0, 2, 0, 4), cells / 3);
            due.is("38 " + cells + " cells, boxes", x.rule(0), cells / 3);
            due.is("39 " + cells + " cells", x.torn(), cells == 12 ? 0 : 2);
        }
        // What is not whole is not looked at, be it ever so wrong.
        HatHours y = new HatHours();
        row(y, 0, 0, 1, 1, 1, 99, 99);
        due.is("38 one came", y.read(0, 0, 0, 2), 1);
        due.is("39 INDEX", y.torn(), 2);
        due.is("38 none came", y.read(0, 0, 3, 1), 0);
        due.is("39 INDEX again", y.torn(), 2);
    }

    private static void promise38TheMachineRefuses() {
        for (int made = 0; made < 3; made++) {
            for (int taken = 0; taken < 3; taken++) {
                HatHours x = new HatHours();
                ones(x, 1, made, 3);
                due.is("38 lane " + made + " as " + taken, x.read(1, taken, 0, 1), made == taken ? 1 : 0);
                due.is("39 lane " + made + " as " + taken, x.torn(), made == taken ? 0 : 3);
                due.is("38 lane " + made + " as " + taken + ", no cell", x.read(1, taken, 3, 1), 0);
                due.is("39 lane " + made + " as " + taken + ", no cell", x.torn(), made == taken ? 2 : 3);
                x.sheet(1, made, 0);
                due.is("38 an empty row " + made + " as " + taken, x.read(1, taken, 0, 1), 0);
                due.is("39 an empty row " + made + " as " + taken, x.torn(), made == taken ? 2 : 3);
                due.is("38 nothing as " + taken, x.read(0, taken, 0, 13), 0);
                due.is("39 nothing as " + taken, x.torn(), 1);
                due.is("38 nothing as " + taken + ", no cell", x.read(0, taken, -1, 13), 0);
                due.is("39 nothing as " + taken + ", no cell", x.torn(), 1);
            }
        }
    }

    private static void promise38SewRefuses() {
        int[][] bad = {{-1, 1, 0}, {4, 1, 0}, {0, 0, 0}, {0, 13, 0}, {0, 1, -1}, {0, 1, 24}};
        int[][] good = {{0, 1, 0}, {3, 1, 0}, {0, 12, 0}, {0, 1, 23}};
        for (int lane = 0; lane < 3; lane++) {
            for (int[] cells : bad) {
                HatHours x = new HatHours();
                row(x, 0, lane, 1, 1, 1, cells[0], cells[1], cells[2]);
                due.is("38 the second", x.read(0, lane, 0, 2), -21);
                due.is("38 none came", x.rule(0), 0);
                due.is("38 the first", x.read(0, lane, 3, 1), -20);
                due.is("38 not met", x.read(0, lane, 0, 1), 1);
            }
            for (int[] cells : good) {
                HatHours x = new HatHours();
                row(x, 0, lane, cells);
                due.is("38 taken", x.read(0, lane, 0, 1), 1);
            }
        }
        for (int boxes = 0; boxes <= 5; boxes++) {
            HatHours x = new HatHours();
            ones(x, 0, 0, 18);
            for (int b = 0; b < boxes; b++) {
                x.sew(1, 1, 1);
            }
            due.is("38 the 6th of all, " + boxes + " being there", x.read(0, 0, 0, 6), -20 - (5 - boxes));
            due.is("38 as many as were", x.rule(0), boxes);
            due.is("38 as many as there may be", x.read(0, 0, 0, 5 - boxes), 5 - boxes);
        }
    }

    private static void promise38TheFirstMet() {
        HatHours x = new HatHours();
        row(x, 0, 0, 1, 1, 1, 4, 1, 1, 1, 1, 1, 1);
        due.is("38 sew() refuses ahead of INDEX", x.read(0, 0, 0, 13), -21);
        due.is("39 as it was", x.torn(), 0);
        due.is("38 INDEX ahead of what would be behind", x.read(0, 0, 6, 13), 1);
        due.is("39 INDEX", x.torn(), 2);
        HatHours full = new HatHours();
        ones(full, 0, 0, 15);
        due.is("38 five, then INDEX", full.read(0, 0, 0, 13), 5);
        due.is("39 INDEX then", full.torn(), 2);
        due.is("38 INDEX though full", full.read(0, 0, 13, 1), 0);
        due.is("38 NULL though full", full.read(1, 0, 0, 1), 0);
        due.is("39 NULL", full.torn(), 1);
        due.is("38 CAST though full", full.read(0, 1, 0, 1), 0);
        due.is("39 CAST", full.torn(), 3);
        ones(full, 0, 0, 17);
        due.is("38 full", full.read(0, 0, 0, 13), -20);
        due.is("39 as it was yet", full.torn(), 3);
        // Both bad and full: it is refused all the same.
        row(full, 0, 0, 9, 9, 99);
        due.is("38 in whichever way", full.read(0, 0, 0, 1), -20);
    }

    private static void promise38AsBySew() {
        HatHours x = Due.told("bonnet 2 3 4 5 1;veil 2 3 4 5 1;order 1 0;");
        x.keep(0);
        x.see(1, 1, 1);
        row(x, 0, 2, 3, 12, 23, 2, 1, 0, 0);
        due.is("38 two came", x.read(0, 2, 0, 3), 2);
        int[][] facts = {{3, 12, 23, 1, 8, 0}, {2, 1, 0, 1, 8, 0}};
        for (int i = 0; i < 2; i++) {
            for (int what = 0; what <= 5; what++) {
                due.is("38 fact " + what + " of " + (2 + i), x.box(2 + i, what), facts[i][what]);
            }
            due.is("38 the last of the order", x.order(2 + i, 0), 2 + i);
        }
        due.is("38 the first stays", x.order(0, 0), 1);
        due.is("38 SEEN stays", x.count(0), 1);
        due.is("38 images stay", x.count(1), 1);
        due.is("38 START stays", x.rule(1), 6);
    }

    private static void promise39CameToAnEnd() {
        HatHours x = new HatHours();
        due.is("39 no read() yet", x.torn(), 0);
        ones(x, 0, 0, 4);
        x.read(0, 0, 0, 2);
        due.is("39 INDEX", x.torn(), 2);
        x.read(0, 0, 0, 14);
        x.read(4, 0, 0, 1);
        x.read(0, 3, 0, 1);
        due.is("39 not by what is BAD", x.torn(), 2);
        x.lay(0, 0, 4);
        due.is("39 refused by sew()", x.read(0, 0, 0, 1), -20);
        due.is("39 nor by that", x.torn(), 2);
        x.lay(0, 9, 1);
        x.lay(1, 0, 1);
        x.sheet(0, 0, -1);
        Due.tell(x, "@");
        due.is("39 nor by another call", x.torn(), 2);
        x.read(0, 1, 0, 1);
        due.is("39 the latest", x.torn(), 3);
        x.lay(0, 0, 3);
        x.read(0, 0, 0, 1);
        due.is("39 none of the latest", x.torn(), 0);
    }

    private static void promise40EachCount() {
        HatHours x = Due.told("veil 1 1 9 1 1;veil 1 1 9 1 1;veil 1 1 9 1 1;veil 1 1 9 1 1;veil 1 1 9 1 1;");
        due.is("40 most WORTH", x.count(4), 45);
        due.is("40 nothing SEEN", x.count(0), 0);
        due.is("40 no images", x.count(1), 0);
        due.is("40 no bytes", x.count(2), 0);
        due.is("40 SHEET 0 is nothing", x.count(3), NONE);
        for (int k = 1; k < 4; k++) {
            x.sheet(k, 0, 5);
            due.is("40 another is not SHEET 0", x.count(3), NONE);
        }
        x.sheet(0, 0, 0);
        due.is("40 no cells", x.count(3), 0);
        x.sheet(0, 2, 40);
        due.is("40 most cells", x.count(3), 40);
        for (int what : new int[] {Integer.MIN_VALUE, -1, 5, Integer.MAX_VALUE}) {
            due.is("40 what " + what, x.count(what), BAD);
        }
        due.is("40 least WORTH", new HatHours().count(4), 0);
        HatHours one = new HatHours();
        one.sew(0, 1, 0);
        due.is("40 WORTH of one sewn", one.count(4), 1);
    }
}
