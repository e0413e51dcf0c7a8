import java.util.ArrayList;
import java.util.List;

/**
 * All that an object holds, as far as its answers tell: two objects with one picture are alike.
 * What is only told by changing calls (THE TAPE, IMAGES, SHEETS) is told too, so the object is used up.
 */
final class Picture {
    private final HatHours x;
    private final List<Long> answers = new ArrayList<>();

    private Picture(HatHours x) {
        this.x = x;
    }

    static List<Long> usingUp(HatHours x) {
        Picture p = new Picture(x);
        p.counts();
        p.world();
        p.seen();
        for (int k = 0; k < 2; k++) {
            p.put(x.back(k));
            p.world();
            p.seen();
        }
        // Only now: a text that is taken has no images left.
        p.put(x.text());
        p.put(x.fault());
        p.world();
        p.sheets();
        return p.answers;
    }

    private void put(long answer) {
        answers.add(answer);
    }

    private void counts() {
        for (int what = 0; what <= 4; what++) {
            put(x.count(what));
        }
        put(x.fault());
        put(x.torn());
    }

    private void world() {
        int boxes = x.rule(0);
        put(boxes);
        put(x.rule(1));
        for (int b = 0; b < boxes; b++) {
            for (int what = 0; what <= 5; what++) {
                put(x.box(b, what));
            }
            put(x.order(b, 0));
        }
    }

    /** From the last to the first: STARTS that are left tell of each. */
    private void seen() {
        int n = x.count(0);
        put(n);
        for (int i = n; i >= 0; i--) {
            put(x.forget(i));
            put(x.starts());
        }
    }

    private void sheets() {
        for (int k = 0; k < 4; k++) {
            for (int lane = 0; lane < 3; lane++) {
                x.text();
                int came = x.read(k, lane, 0, 4);
                put(came);
                put(x.torn());
                for (int b = 0; b < came; b++) {
                    put(x.box(b, 0));
                    put(x.box(b, 1));
                    put(x.box(b, 2));
                }
            }
        }
    }
}
