import java.util.List;
import java.util.function.IntFunction;
import java.util.function.Supplier;
import java.util.function.ToLongFunction;

/**
 * "What is refused changes nothing", by the promise's number: each refused call, in several states, is made
 * on one of two twins, which are alike afterwards. So are twins of which one was merely asked.
 */
final class RefusedTest {
    private static final int BAD = HatHours.BAD, STATE = HatHours.STATE, FULL = HatHours.FULL;
    private static final Due due = new Due("RefusedTest");

    public static void main(String[] args) {
        badInAnyState();
        badWhereThereAreFour();
        badWhereThereAreNone();
        badAheadOfTheOtherAnswers();
        otherRefusals();
        whatIsAskedChangesNothing();
        due.close();
    }

    /** Four BOXES, half a text on THE TAPE, two SEEN, an image that is not as it is now, SHEETS of each lane. */
    private static HatHours four() {
        HatHours x = Due.told("bonnet 5 12 3 8 0;veil 3 4 2 9 0;order 1;start 20;");
        x.see(0, 9, 23);
        x.keep(1);
        x.sew(2, 8, 22);
        x.sew(3, 12, 6);
        x.change(0, 3);
        x.start(19);
        x.see(4, 7, 7);
        for (int lane = 0; lane < 3; lane++) {
            x.sheet(lane, lane, 7);
            for (int i = 0; i < 7; i++) {
                x.lay(lane, i, (i + lane) % 3 + 1);
            }
        }
        x.read(3, 0, 0, 1);
        Due.feed(x, "start 24;");
        x.text();
        Due.feed(x, "veil 1 2 3 4 0;order");
        x.feed(';');
        return x;
    }

    /** Five BOXES, six SEEN, THE TAPE full. */
    private static HatHours full() {
        HatHours x = four();
        x.sew(0, 1, 1);
        for (int i = x.count(0); i < 6; i++) {
            x.see(1, i, i);
        }
        for (int i = x.count(2); i < 160; i++) {
            x.feed(' ');
        }
        return x;
    }

    private static void refused(String call, Supplier<HatHours> made, ToLongFunction<HatHours> called, long answer) {
        HatHours one = made.get();
        HatHours twin = made.get();
        due.is(call, called.applyAsLong(one), answer);
        alike(call, one, twin);
    }

    private static void alike(String call, HatHours one, HatHours twin) {
        List<Long> picture = Picture.usingUp(one);
        due.is(call + " changes nothing", picture.equals(Picture.usingUp(twin)) ? 1 : 0, 1);
    }

    /** Numbers below the least and above the most, next to them and as far as may be. */
    private static void outside(String call, Supplier<HatHours> made, int least, int most,
            IntFunction<ToLongFunction<HatHours>> called) {
        for (int v : new int[] {Integer.MIN_VALUE, least - 1, most + 1, Integer.MAX_VALUE}) {
            refused(call + " by " + v, made, called.apply(v), BAD);
        }
    }

    private static void badInAnyState() {
        for (Supplier<HatHours> made : List.<Supplier<HatHours>>of(HatHours::new, RefusedTest::four, RefusedTest::full)) {
            outside("2 feed", made, 0, 127, v -> x -> x.feed(v));
            outside("3 end", made, 0, made.get().count(2), v -> x -> x.end(v));
            outside("6 rule", made, 0, 5, v -> x -> x.rule(v));
            outside("10 start", made, 0, 23, v -> x -> x.start(v));
            outside("12 sew kind", made, 0, 3, v -> x -> x.sew(v, 1, 0));
            outside("12 sew work", made, 1, 12, v -> x -> x.sew(0, v, 0));
            outside("12 sew wanted", made, 0, 23, v -> x -> x.sew(0, 1, v));
            outside("13 clock room", made, 0, 4, v -> x -> x.clock(v, 8, 0));
            outside("13 clock hour", made, 0, 23, v -> x -> x.clock(0, v, 0));
            outside("13 clock what", made, 0, 1, v -> x -> x.clock(0, 8, v));
            outside("14 room r", made, 0, 4, v -> x -> x.room(v, 0));
            outside("14 room what", made, 0, 1, v -> x -> x.room(0, v));
            outside("16 meet r", made, 0, 4, v -> x -> x.meet(v, 0));
            outside("16 meet q", made, 0, 4, v -> x -> x.meet(0, v));
            outside("17 first r", made, 0, 4, v -> x -> x.first(v, 0));
            outside("17 first v", made, 0, 23, v -> x -> x.first(0, v));
            outside("19 begin", made, 0, 1, v -> x -> x.begin(v));
            outside("20 swap", made, 0, 1, v -> x -> x.swap(v));
            outside("26 mean v", made, 0, 10, v -> x -> x.mean(v, 0));
            outside("26 mean what", made, 0, 1, v -> x -> x.mean(5, v));
            outside("27 see room", made, 0, 4, v -> x -> x.see(v, 0, 0));
            outside("27 see hour", made, 0, 23, v -> x -> x.see(0, v, 0));
            outside("27 see v", made, 0, 23, v -> x -> x.see(0, 0, v));
            outside("28 forget", made, 0, made.get().count(0), v -> x -> x.forget(v));
            outside("32 ask", made, 0, 1, v -> x -> x.ask(v));
            outside("33 drift n", made, 1, 60, v -> x -> x.drift(7, v, 0));
            outside("33 drift what", made, 0, 1, v -> x -> x.drift(7, 1, v));
            outside("34 keep", made, 0, 1, v -> x -> x.keep(v));
            outside("35 back", made, 0, 1, v -> x -> x.back(v));
            outside("36 sheet k", made, 0, 3, v -> x -> x.sheet(v, 0, 1));
            outside("36 sheet lane", made, 0, 2, v -> x -> x.sheet(0, v, 1));
            outside("37 lay k", made, 0, 3, v -> x -> x.lay(v, 0, 1));
            outside("38 read k", made, 0, 3, v -> x -> x.read(v, 0, 0, 1));
            outside("38 read lane", made, 0, 2, v -> x -> x.read(0, v, 0, 1));
            outside("38 read n", made, 0, 13, v -> x -> x.read(0, 0, 0, v));
            outside("40 count", made, 0, 4, v -> x -> x.count(v));
            for (int r = 0; r < 5; r++) {
                int room = r;
                refused("16 meet alike " + r, made, x -> x.meet(room, room), BAD);
            }
            for (int n : new int[] {41, Integer.MAX_VALUE}) {
                refused("36 sheet n " + n, made, x -> x.sheet(0, 0, n), BAD);
            }
        }
    }

    private static void badWhereThereAreFour() {
        Supplier<HatHours> made = RefusedTest::four;
        outside("7 box b", made, 0, 3, v -> x -> x.box(v, 0));
        outside("7 box what", made, 0, 9, v -> x -> x.box(0, v));
        outside("8 order i", made, 0, 3, v -> x -> x.order(v, 0));
        outside("8 order what", made, 0, 1, v -> x -> x.order(0, v));
        outside("9 alter b", made, 0, 3, v -> x -> x.alter(v, 1, 1));
        outside("9 alter what", made, 0, 5, v -> x -> x.alter(0, v, 1));
        int[] least = {0, 1, 0, 1, 0, 0};
        int[] most = {3, 12, 23, 9, 23, 4};
        for (int i = 0; i < 6; i++) {
            int what = i;
            outside("9 alter v of " + i, made, least[i], most[i], v -> x -> x.alter(0, what, v));
        }
        outside("11 change i", made, 0, 3, v -> x -> x.change(v, 0));
        outside("11 change k", made, 0, 3, v -> x -> x.change(0, v));
        for (int i = 0; i < 4; i++) {
            int place = i;
            refused("11 change alike " + i, made, x -> x.change(place, place), BAD);
        }
        outside("15 out", made, 0, 3, v -> x -> x.out(v));
        outside("18 best", made, 10, 13, v -> x -> x.best(v));
        refused("18 best by 1", made, x -> x.best(1), BAD);
        refused("18 best by -1", made, x -> x.best(-1), BAD);
        outside("21 longer", made, 0, 3, v -> x -> x.longer(v));
        outside("22 when b", made, 0, 3, v -> x -> x.when(v, 8, 8));
        outside("22 when hour", made, 0, 23, v -> x -> x.when(0, v, 8));
        outside("22 when v", made, 0, 23, v -> x -> x.when(0, 8, v));
        outside("23 wake b", made, 0, 3, v -> x -> x.wake(v, 0));
        outside("23 wake what", made, 0, 1, v -> x -> x.wake(0, v));
        outside("24 where b", made, 0, 3, v -> x -> x.where(v, 0));
        outside("24 where what", made, 0, 1, v -> x -> x.where(0, v));
        outside("25 luck v", made, 0, 10, v -> x -> x.luck(v, 0, 0));
        outside("25 luck b", made, 0, 3, v -> x -> x.luck(5, v, 0));
        outside("25 luck what", made, 0, 1, v -> x -> x.luck(5, 0, v));
        outside("30 kinds", made, 0, 3, v -> x -> x.kinds(v));
        outside("31 works", made, 0, 3, v -> x -> x.works(v));
    }

    /** Without BOXES there is no BOX 0 and no PLACE 0. */
    private static void badWhereThereAreNone() {
        Supplier<HatHours> made = HatHours::new;
        for (int v : new int[] {Integer.MIN_VALUE, -1, 0, 1, 5, Integer.MAX_VALUE}) {
            refused("7 no boxes, box " + v, made, x -> x.box(v, 0), BAD);
            refused("8 no boxes, order " + v, made, x -> x.order(v, 0), BAD);
            refused("9 no boxes, alter " + v, made, x -> x.alter(v, 1, 1), BAD);
            refused("11 no boxes, change " + v, made, x -> x.change(v, 0), BAD);
            refused("15 no boxes, out " + v, made, x -> x.out(v), BAD);
            refused("18 no boxes, best " + v, made, x -> x.best(10 + v), BAD);
            refused("21 no boxes, longer " + v, made, x -> x.longer(v), BAD);
            refused("22 no boxes, when " + v, made, x -> x.when(v, 0, 0), BAD);
            refused("23 no boxes, wake " + v, made, x -> x.wake(v, 0), BAD);
            refused("24 no boxes, where " + v, made, x -> x.where(v, 0), BAD);
            refused("25 no boxes, luck " + v, made, x -> x.luck(5, v, 0), BAD);
            refused("30 no boxes, kinds " + v, made, x -> x.kinds(v), BAD);
            refused("31 no boxes, works " + v, made, x -> x.works(v), BAD);
        }
    }

    /** Of the answers BAD, STATE, FULL, NONE and the FAULTS "the first that fits". */
    private static void badAheadOfTheOtherAnswers() {
        refused("2 BAD ahead of FULL", RefusedTest::full, x -> x.feed(128), BAD);
        refused("12 BAD ahead of FULL", RefusedTest::full, x -> x.sew(0, 0, 0), BAD);
        refused("16 BAD ahead of NONE", HatHours::new, x -> x.meet(3, 3), BAD);
        refused("27 BAD ahead of FULL", RefusedTest::full, x -> x.see(0, 0, 24), BAD);
        refused("20 BAD ahead of NONE", HatHours::new, x -> x.swap(2), BAD);
        refused("32 BAD ahead of NONE", HatHours::new, x -> x.ask(2), BAD);
        refused("33 BAD ahead of STATE, n", HatHours::new, x -> x.drift(7, 0, 0), BAD);
        refused("33 BAD ahead of STATE, what", HatHours::new, x -> x.drift(7, 1, 2), BAD);
        refused("35 BAD ahead of STATE", HatHours::new, x -> x.back(2), BAD);
        refused("36 BAD ahead of SIZE, k", RefusedTest::four, x -> x.sheet(4, 0, -1), BAD);
        refused("36 BAD ahead of SIZE, lane", RefusedTest::four, x -> x.sheet(0, 3, -1), BAD);
        refused("37 BAD ahead of INDEX", RefusedTest::four, x -> x.lay(4, 99, 0), BAD);
        refused("38 BAD ahead of CAST", RefusedTest::four, x -> x.read(0, 1, 0, 14), BAD);
        refused("38 BAD ahead of what sew() refuses", RefusedTest::full, x -> x.read(0, 0, 0, 14), BAD);
    }

    private static void otherRefusals() {
        refused("2 FULL", RefusedTest::full, x -> x.feed(';'), FULL);
        refused("12 FULL", RefusedTest::full, x -> x.sew(0, 1, 0), FULL);
        refused("27 FULL", RefusedTest::full, x -> x.see(0, 0, 0), FULL);
        refused("33 STATE", HatHours::new, x -> x.drift(7, 1, 0), STATE);
        refused("35 STATE, image 0", RefusedTest::four, x -> x.back(0), STATE);
        refused("35 STATE, image 1", HatHours::new, x -> x.back(1), STATE);
        refused("36 SIZE", RefusedTest::four, x -> x.sheet(0, 1, -1), -14);
        refused("36 SIZE, far below", RefusedTest::four, x -> x.sheet(1, 0, Integer.MIN_VALUE), -14);
        refused("37 NULL", RefusedTest::four, x -> x.lay(3, 0, 1), -11);
        refused("37 INDEX above", RefusedTest::four, x -> x.lay(0, 7, 1), -12);
        refused("37 INDEX below", RefusedTest::four, x -> x.lay(2, -1, 1), -12);
        refused("38 FULL by sew(), the first", RefusedTest::full, x -> x.read(0, 0, 0, 1), -20);
        refused("38 FULL by sew(), the second", RefusedTest::four, x -> x.read(0, 0, 0, 2), -21);
        refused("38 BAD by sew(), the first", RefusedTest::badCells, x -> x.read(0, 0, 3, 1), -20);
        refused("38 BAD by sew(), the second", RefusedTest::badCells, x -> x.read(0, 0, 0, 3), -21);
    }

    /** The second of two whole ones has a WORK of 0. */
    private static HatHours badCells() {
        HatHours x = new HatHours();
        x.sheet(0, 0, 8);
        x.lay(0, 1, 1);
        x.read(0, 1, 0, 1);
        return x;
    }

    private static void whatIsAskedChangesNothing() {
        for (Supplier<HatHours> made : List.<Supplier<HatHours>>of(HatHours::new, RefusedTest::four, RefusedTest::full)) {
            HatHours one = made.get();
            askAll(one);
            alike("all that is asked", one, made.get());
        }
    }

    private static void askAll(HatHours x) {
        x.fault();
        x.torn();
        x.starts();
        for (int v = 0; v < 24; v++) {
            x.first(v % 5, v);
            x.clock(v % 5, v, v % 2);
            x.meet(v % 5, v / 5);
            x.rule(v);
            x.count(v);
            x.room(v % 5, v % 2);
            x.mean(v % 11, v % 2);
        }
        for (int b = 0; b < 5; b++) {
            x.best(b == 0 ? 0 : 9 + b);
            x.out(b);
            x.longer(b);
            x.when(b, 12, 12 + b);
            x.kinds(b);
            x.works(b);
            for (int what = 0; what < 2; what++) {
                x.order(b, what);
                x.wake(b, what);
                x.where(b, what);
                x.luck(3, b, what);
                x.drift(b, 60, what);
            }
            for (int what = 0; what < 10; what++) {
                x.box(b, what);
            }
        }
        for (int what = 0; what < 2; what++) {
            x.begin(what);
            x.swap(what);
            x.ask(what);
        }
    }
}
