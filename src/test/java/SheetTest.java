/** Promises 34 to 40: images, sheets. */
final class SheetTest {
    private static final Due due = new Due("SheetTest");

    public static void main(String[] args) {
        images();
        sheet();
        lay();
        read();
        readWhatTheMachineRefuses();
        readWhatSewRefuses();
        torn();
        count();
        due.close();
    }

    private static void images() {
        HatHours x = Due.told("bonnet 5 12 3 8 0;veil 3 4 2 9 0;order 1;start 20;");
        x.see(0, 1, 1);
        due.is("keep(2)", x.keep(2), HatHours.BAD);
        due.is("keep(-1)", x.keep(-1), HatHours.BAD);
        due.is("back(2)", x.back(2), HatHours.BAD);
        due.is("back(-1)", x.back(-1), HatHours.BAD);
        due.is("back(0)", x.back(0), HatHours.STATE);
        due.is("keep(0)", x.keep(0), 0);
        due.is("one image", x.count(1), 1);
        due.is("back(1)", x.back(1), HatHours.STATE);
        x.sew(3, 1, 1);
        x.alter(0, 2, 7);
        x.change(0, 1);
        x.start(3);
        x.see(0, 2, 2);
        due.is("keep(1)", x.keep(1), 0);
        due.is("two images", x.count(1), 2);
        due.is("back to 0", x.back(0), 20);
        due.is("boxes", x.rule(0), 2);
        due.is("wanted", x.box(0, 2), 12);
        due.is("order", x.order(0, 0), 1);
        due.is("seen", x.count(0), 1);
        due.is("back to 1", x.back(1), 3);
        due.is("boxes of 1", x.rule(0), 3);
        due.is("wanted of 1", x.box(0, 2), 7);
        due.is("order of 1", x.order(0, 0), 0);
        due.is("seen of 1", x.count(0), 2);
        due.is("keep(0) again", x.keep(0), 1);
        x.start(9);
        due.is("the image is not what is changed", x.back(0), 3);
        due.is("again", x.back(0), 3);
        x.forget(0);
        x.see(1, 5, 5);
        x.see(2, 6, 7);
        due.is("what was SEEN is not so", x.starts(), 0);
        due.is("back once more", x.back(0), 3);
        due.is("what was SEEN then is so", x.starts(), 0xFFFFFF);
        x.see(4, 9, 10);
        x.keep(1);
        x.forget(0);
        x.see(0, 0, 0);
        x.see(0, 0, 0);
        x.see(0, 0, 0);
        x.back(1);
        due.is("as SEEN in image 1", x.starts(), 0);
        due.is("forgotten but two", x.forget(2), 3);
        due.is("so again", x.starts(), 0xFFFFFF);
    }

    private static void sheet() {
        HatHours x = new HatHours();
        due.is("k 4", x.sheet(4, 0, 1), HatHours.BAD);
        due.is("k -1", x.sheet(-1, 0, 1), HatHours.BAD);
        due.is("lane 3", x.sheet(0, 3, 1), HatHours.BAD);
        due.is("lane -1", x.sheet(0, -1, 1), HatHours.BAD);
        due.is("n 41", x.sheet(0, 0, 41), HatHours.BAD);
        due.is("n -1", x.sheet(0, 0, -1), -14);
        due.is("n -1, k 4", x.sheet(4, 0, -1), HatHours.BAD);
        due.is("still nothing", x.count(3), HatHours.NONE);
        due.is("n 40", x.sheet(0, 0, 40), 1);
        due.is("40 cells", x.count(3), 40);
        due.is("n -1 then", x.sheet(0, 1, -1), -14);
        due.is("40 cells yet", x.count(3), 40);
        due.is("n 0", x.sheet(0, 2, 0), 1);
        due.is("0 cells", x.count(3), 0);
        due.is("sheet 3, n 40", x.sheet(3, 2, 40), 1);
        due.is("its last cell", x.lay(3, 39, 1), 1);
        row(x, 1, 0, 3, 2, 1);
        x.sheet(0, 0, 40);
        due.is("another sheet stays", x.read(1, 0, 0, 1), 1);
        due.is("its kind", x.box(0, 0), 3);
    }

    private static void lay() {
        HatHours x = new HatHours();
        due.is("k 4", x.lay(4, 0, 1), HatHours.BAD);
        due.is("k -1", x.lay(-1, 0, 1), HatHours.BAD);
        due.is("nothing", x.lay(3, 0, 1), -11);
        due.is("nothing, whatever i", x.lay(3, -5, 1), -11);
        x.sheet(3, 1, 3);
        due.is("i 3", x.lay(3, 3, 1), -12);
        due.is("i -1", x.lay(3, -1, 1), -12);
        due.is("i 2", x.lay(3, 2, 1), 1);
        x.sheet(3, 1, 0);
        due.is("no cells", x.lay(3, 0, 1), -12);
        lowestBits(0, 256);
        lowestBits(1, 65536);
        HatHours y = new HatHours();
        y.sheet(0, 2, 3);
        y.lay(0, 0, 65536 + 3);
        y.lay(0, 1, 1);
        due.is("an int has them all", y.read(0, 2, 0, 1), -20);
        y.sheet(0, 2, 3);
        y.lay(0, 1, 1);
        due.is("a new row is of 0", y.read(0, 2, 0, 1), 1);
        due.is("its kind", y.box(0, 0), 0);
    }

    private static void lowestBits(int lane, int beyond) {
        HatHours x = new HatHours();
        x.sheet(1, lane, 3);
        x.lay(1, 0, beyond + 3);
        x.lay(1, 1, 12 - beyond);
        x.lay(1, 2, 7 * beyond + 23);
        due.is("lane " + lane, x.read(1, lane, 0, 1), 1);
        due.is("kind", x.box(0, 0), 3);
        due.is("work", x.box(0, 1), 12);
        due.is("wanted", x.box(0, 2), 23);
        x.lay(1, 2, beyond - 1);
        due.is("the highest of the bits is a sign", x.read(1, lane, 0, 1), -20);
    }

    private static void row(HatHours x, int k, int lane, int... cells) {
        x.sheet(k, lane, cells.length);
        for (int i = 0; i < cells.length; i++) {
            x.lay(k, i, cells[i]);
        }
    }

    private static void read() {
        HatHours x = new HatHours();
        row(x, 2, 1, 9, 1, 2, 3, 3, 12, 23, 0, 1, 0);
        due.is("k 4", x.read(4, 1, 0, 1), HatHours.BAD);
        due.is("k -1", x.read(-1, 1, 0, 1), HatHours.BAD);
        due.is("lane 3", x.read(2, 3, 0, 1), HatHours.BAD);
        due.is("lane -1", x.read(2, -1, 0, 1), HatHours.BAD);
        due.is("n 14", x.read(2, 1, 0, 14), HatHours.BAD);
        due.is("n -1", x.read(2, 1, 0, -1), HatHours.BAD);
        due.is("n 0", x.read(2, 1, 0, 0), 0);
        due.is("three from 1 on", x.read(2, 1, 1, 3), 3);
        int[][] facts = {{1, 2, 3}, {3, 12, 23}, {0, 1, 0}};
        for (int b = 0; b < 3; b++) {
            for (int what = 0; what < 3; what++) {
                due.is("box " + b + " fact " + what, x.box(b, what), facts[b][what]);
            }
            due.is("worth of " + b, x.box(b, 3), 1);
            due.is("opened of " + b, x.box(b, 4), 8);
            due.is("room of " + b, x.box(b, 5), 0);
            due.is("place of " + b, x.box(b, 9), b);
        }
        due.is("torn", x.torn(), 0);
    }

    private static void readWhatTheMachineRefuses() {
        HatHours x = new HatHours();
        due.is("nothing", x.read(0, 0, 0, 1), 0);
        due.is("NULL", x.torn(), 1);
        due.is("nothing, no such cell", x.read(0, 0, -1, 1), 0);
        due.is("NULL first", x.torn(), 1);
        row(x, 0, 0, 1, 2, 3, 1, 2, 3, 1, 2);
        due.is("another lane", x.read(0, 1, 0, 2), 0);
        due.is("CAST", x.torn(), 3);
        due.is("another lane, no such cell", x.read(0, 2, 99, 2), 0);
        due.is("CAST first", x.torn(), 3);
        due.is("below", x.read(0, 0, -1, 1), 0);
        due.is("INDEX", x.torn(), 2);
        due.is("two whole ones", x.read(0, 0, 0, 3), 2);
        due.is("INDEX in the third", x.torn(), 2);
        due.is("they came", x.rule(0), 2);
        due.is("as far as it goes", x.read(0, 0, 3, 1), 1);
        due.is("no fault", x.torn(), 0);
        due.is("far above", x.read(0, 0, Integer.MAX_VALUE, 13), 0);
        due.is("INDEX above", x.torn(), 2);
        due.is("far below", x.read(0, 0, Integer.MIN_VALUE, 13), 0);
        due.is("three are there", x.rule(0), 3);
    }

    private static void readWhatSewRefuses() {
        HatHours x = new HatHours();
        row(x, 0, 2, 1, 2, 3, 4, 2, 3, 1, 2);
        due.is("the second, bad", x.read(0, 2, 0, 3), -21);
        due.is("none came", x.rule(0), 0);
        due.is("the first, bad", x.read(0, 2, 3, 1), -20);
        row(x, 1, 2, 1, 2, 3, 1, 2, 3, 1, 0);
        due.is("the third is not whole", x.read(1, 2, 0, 3), 2);
        row(x, 2, 0, 1, 1, 1, 1, 1, 1, 1, 1, 1, 1, 1, 1, 1, 1, 1, 1, 1, 1);
        due.is("full at the fourth", x.read(2, 0, 0, 6), -23);
        due.is("two as before", x.rule(0), 2);
        due.is("three more", x.read(2, 0, 0, 3), 3);
        due.is("full", x.read(2, 0, 0, 1), -20);
        due.is("INDEX though full", x.read(2, 0, 18, 1), 0);
    }

    private static void torn() {
        HatHours x = new HatHours();
        row(x, 0, 0, 4, 1, 1);
        x.read(1, 0, 0, 1);
        due.is("NULL", x.torn(), 1);
        x.read(9, 0, 0, 1);
        due.is("a bad read() came to no end", x.torn(), 1);
        due.is("refused", x.read(0, 0, 0, 1), -20);
        due.is("a refused read() came to no end", x.torn(), 1);
        x.sheet(0, 0, -1);
        x.lay(0, 9, 1);
        due.is("only read() tears", x.torn(), 1);
        x.lay(0, 0, 3);
        due.is("one came", x.read(0, 0, 0, 1), 1);
        due.is("no fault then", x.torn(), 0);
    }

    private static void count() {
        HatHours x = Due.told("bonnet 5 12 3 8 0;veil 3 4 9 9 0;");
        due.is("worth", x.count(4), 12);
        due.is("what 5", x.count(5), HatHours.BAD);
        due.is("what -1", x.count(-1), HatHours.BAD);
        x.see(0, 0, 0);
        x.see(0, 0, 0);
        x.keep(1);
        x.feed(65);
        x.sheet(0, 1, 11);
        x.sheet(1, 1, 12);
        due.is("seen", x.count(0), 2);
        due.is("images", x.count(1), 1);
        due.is("bytes", x.count(2), 1);
        due.is("cells", x.count(3), 11);
    }
}
