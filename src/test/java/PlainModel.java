import java.math.BigInteger;
import java.util.ArrayList;
import java.util.Arrays;
import java.util.Collections;
import java.util.Comparator;
import java.util.List;
import java.util.function.ToIntFunction;

/**
 * The document once more, written in another way than the class: lists that are copied, a day that is
 * painted whole, every outcome of the odds gone through, and the faults of SHEETS left to the machine.
 */
final class PlainModel {
    private static final int BAD = -1, STATE = -2, FULL = -3, NONE = -4;
    private static final int[] LEAST = {0, 1, 0, 1, 0, 0}, MOST = {3, 12, 23, 9, 23, 4};

    /** All that an image holds. */
    private static final class World {
        List<int[]> boxes = new ArrayList<>();
        List<Integer> order = new ArrayList<>();
        List<int[]> seen = new ArrayList<>();
        int start = 6;

        World copy() {
            World w = new World();
            boxes.forEach(b -> w.boxes.add(b.clone()));
            w.order.addAll(order);
            seen.forEach(s -> w.seen.add(s.clone()));
            w.start = start;
            return w;
        }

        int done(int b) {
            int sum = start;
            for (int i = 0; i <= order.indexOf(b); i++) {
                sum += boxes.get(order.get(i))[1];
            }
            return sum;
        }

        int wrong(int b, int done) {
            int wanted = boxes.get(b)[2];
            int own = done % 24;
            int way = Math.abs(own - wanted);
            return boxes.get(b)[3] * (way > 12 ? 24 - way : way);
        }

        int wrong() {
            int sum = 0;
            for (int b = 0; b < boxes.size(); b++) {
                sum += wrong(b, done(b));
            }
            return sum;
        }

        /** By ROOM and HOUR: o'clock and BOX. */
        int[][][] day() {
            int[][][] day = new int[5][24][];
            for (int r = 0; r < 5; r++) {
                for (int h = 0; h < 24; h++) {
                    day[r][h] = new int[] {h, NONE};
                }
            }
            List<Integer> painted = new ArrayList<>();
            for (int b = 0; b < boxes.size(); b++) {
                painted.add(b);
            }
            painted.sort(Comparator.comparingInt(b -> boxes.get(b)[4] * 10 + b));
            for (int b : painted) {
                int[] box = boxes.get(b);
                for (int i = 0; i < lasts(box[0]) && box[4] + i < 24; i++) {
                    day[box[5]][box[4] + i] = new int[] {(done(b) + i) % 24, b};
                }
            }
            return day;
        }

        int yawns(int room) {
            int[][][] day = day();
            int yawns = 0;
            for (int h = 6; h < 24; h++) {
                yawns += day[room][h][0] < 6 ? 1 : 0;
            }
            return yawns;
        }

        int yawns() {
            return yawns(0) + yawns(1) + yawns(2) + yawns(3) + yawns(4);
        }

        int strange(int room) {
            int[][][] day = day();
            int bits = 0;
            for (int h = 0; h < 24; h++) {
                bits += day[room][h][0] != h ? 1 << h : 0;
            }
            return bits;
        }

        boolean asSeen() {
            int[][][] day = day();
            return seen.stream().allMatch(s -> day[s[0]][s[1]][0] == s[2]);
        }
    }

    private static final class Fault extends RuntimeException {
        private static final long serialVersionUID = 1;
        final int fault, place;

        Fault(int fault, int place) {
            this.fault = fault;
            this.place = place;
        }
    }

    private World now = new World();
    private final World[] images = new World[2];
    private final Object[] sheets = new Object[4];
    private String tape = "";
    private int fault, torn;

    static int lasts(int kind) {
        int bonnet = 4, veil = bonnet / 2;
        return List.of(bonnet, veil, veil + 1, 2 * bonnet).get(kind);
    }

    private boolean no(int b) {
        return b < 0 || b >= now.boxes.size();
    }

    private static boolean noHour(int h) {
        return h < 0 || h > 23;
    }

    private static boolean noRoom(int r) {
        return r < 0 || r > 4;
    }

    private static boolean notOneOf(int v, int most) {
        return v < 0 || v > most;
    }

    int feed(int c) {
        if (c < 0 || c > 127) {
            return BAD;
        }
        if (tape.length() == 160) {
            return FULL;
        }
        tape += (char) c;
        return tape.length();
    }

    int end(int n) {
        int had = tape.length();
        if (n < 0 || n > had) {
            return BAD;
        }
        tape = tape.substring(0, n);
        return had;
    }

    // The text: tokens are cut off the front of what is left.
    private String left, token;
    private int at;

    private void next(int length) {
        left = left.replaceFirst("^ +", "");
        at = length - left.length();
        if (left.isEmpty()) {
            token = "";
        } else if (left.charAt(0) == ';') {
            token = ";";
        } else if (left.matches("(?s)[a-z].*")) {
            token = left.replaceFirst("(?s)[^a-z].*", "");
        } else if (left.matches("(?s)[0-9].*")) {
            token = left.replaceFirst("(?s)[^0-9].*", "");
        } else {
            throw new Fault(1, at);
        }
        if (token.matches("[0-9]{3,}")) {
            throw new Fault(1, at);
        }
        left = left.substring(token.length());
    }

    private int number(int length, int least, int most) {
        next(length);
        return numberHere(least, most);
    }

    private int numberHere(int least, int most) {
        if (!token.matches("[0-9]+")) {
            throw new Fault(2, at);
        }
        int v = Integer.parseInt(token);
        if (v < least || v > most) {
            throw new Fault(3, at);
        }
        return v;
    }

    private void stop(int length) {
        next(length);
        if (!token.equals(";")) {
            throw new Fault(2, at);
        }
    }

    int text() {
        String all = tape;
        tape = "";
        fault = 0;
        try {
            return textOf(all);
        } catch (Fault f) {
            fault = f.fault;
            return -10 - f.place;
        }
    }

    private int textOf(String all) {
        int length = all.length();
        World w = new World();
        List<Integer> ahead = null;
        boolean started = false;
        int lines = 0;
        left = all;
        for (next(length); !token.isEmpty(); next(length)) {
            int kind = List.of("bonnet", "veil", "toque", "bridal").indexOf(token);
            if (kind >= 0) {
                if (w.boxes.size() == 5) {
                    throw new Fault(5, at);
                }
                int[] box = new int[6];
                box[0] = kind;
                for (int what = 1; what < 6; what++) {
                    box[what] = number(length, LEAST[what], MOST[what]);
                }
                w.boxes.add(box);
                stop(length);
            } else if (token.equals("order")) {
                if (ahead != null) {
                    throw new Fault(4, at);
                }
                ahead = new ArrayList<>();
                for (next(length); !token.equals(";"); next(length)) {
                    int b = numberHere(0, 4);
                    if (ahead.contains(b)) {
                        throw new Fault(4, at);
                    }
                    ahead.add(b);
                }
            } else if (token.equals("start")) {
                if (started) {
                    throw new Fault(4, at);
                }
                started = true;
                w.start = number(length, 0, 23);
                stop(length);
            } else {
                throw new Fault(2, at);
            }
            lines++;
        }
        if (ahead != null) {
            w.order.addAll(ahead);
        }
        for (int b : w.order) {
            if (b >= w.boxes.size()) {
                throw new Fault(6, length);
            }
        }
        for (int b = 0; b < w.boxes.size(); b++) {
            if (!w.order.contains(b)) {
                w.order.add(b);
            }
        }
        now = w;
        Arrays.fill(images, null);
        return lines;
    }

    int fault() {
        return fault;
    }

    int rule(int what) {
        switch (what) {
            case 0: return now.boxes.size();
            case 1: return now.start;
            case 2: return now.boxes.stream().mapToInt(b -> b[1]).sum();
            case 3: return now.wrong();
            case 4: return now.yawns();
            case 5: {
                int sum = 0;
                for (int r = 0; r < 5; r++) {
                    sum += Integer.bitCount(now.strange(r));
                }
                return sum;
            }
            default: return BAD;
        }
    }

    int box(int b, int what) {
        if (no(b) || notOneOf(what, 9)) {
            return BAD;
        }
        int[] box = now.boxes.get(b);
        return what < 6 ? box[what] : what == 6 ? lasts(box[0]) : what == 7 ? now.done(b) % 24
                : what == 8 ? now.wrong(b, now.done(b)) : now.order.indexOf(b);
    }

    int order(int i, int what) {
        if (no(i) || notOneOf(what, 1)) {
            return BAD;
        }
        int b = now.order.get(i);
        return what == 0 ? b : now.done(b);
    }

    int alter(int b, int what, int v) {
        if (no(b) || notOneOf(what, 5) || v < LEAST[what] || v > MOST[what]) {
            return BAD;
        }
        int was = now.boxes.get(b)[what];
        now.boxes.get(b)[what] = v;
        return was;
    }

    int start(int v) {
        if (noHour(v)) {
            return BAD;
        }
        int was = now.start;
        now.start = v;
        return was;
    }

    int change(int i, int k) {
        if (no(i) || no(k) || i == k) {
            return BAD;
        }
        Collections.swap(now.order, i, k);
        return now.order.get(k);
    }

    int sew(int kind, int work, int wanted) {
        return sewIn(now, kind, work, wanted);
    }

    private static int sewIn(World w, int kind, int work, int wanted) {
        if (kind < 0 || kind > 3 || work < 1 || work > 12 || noHour(wanted)) {
            return BAD;
        }
        if (w.boxes.size() == 5) {
            return FULL;
        }
        w.order.add(w.boxes.size());
        w.boxes.add(new int[] {kind, work, wanted, 1, 8, 0});
        return w.boxes.size();
    }

    int clock(int room, int hour, int what) {
        return noRoom(room) || noHour(hour) || notOneOf(what, 1) ? BAD : now.day()[room][hour][what];
    }

    int room(int r, int what) {
        return noRoom(r) || notOneOf(what, 1) ? BAD : what == 0 ? now.yawns(r) : now.strange(r);
    }

    int out(int b) {
        if (no(b)) {
            return BAD;
        }
        int bits = 0;
        for (int h = 0; h < 24; h++) {
            bits += now.day()[now.boxes.get(b)[5]][h][1] == b ? 1 << h : 0;
        }
        return bits;
    }

    int meet(int r, int q) {
        if (noRoom(r) || noRoom(q) || r == q) {
            return BAD;
        }
        int[][][] day = now.day();
        for (int h = 0; h < 24; h++) {
            if (day[r][h][1] >= 0 && day[q][h][1] >= 0 && day[r][h][0] == day[q][h][0]) {
                return h;
            }
        }
        return NONE;
    }

    int first(int r, int v) {
        if (noRoom(r) || noHour(v)) {
            return BAD;
        }
        int[][][] day = now.day();
        for (int h = 0; h < 24; h++) {
            if (day[r][h][0] == v) {
                return h;
            }
        }
        return NONE;
    }

    private static void orders(List<Integer> head, int n, List<List<Integer>> all) {
        if (head.size() == n) {
            all.add(head);
        }
        for (int b = 0; b < n; b++) {
            if (!head.contains(b)) {
                List<Integer> more = new ArrayList<>(head);
                more.add(b);
                orders(more, n, all);
            }
        }
    }

    int best(int what) {
        if (what != 0 && (what < 10 || no(what - 10))) {
            return BAD;
        }
        List<List<Integer>> all = new ArrayList<>();
        orders(new ArrayList<>(), now.boxes.size(), all);
        World w = now.copy();
        ToIntFunction<List<Integer>> wrong = o -> {
            w.order = o;
            return w.wrong();
        };
        // min() answers the first of several.
        List<Integer> best = all.stream().min(Comparator.comparingInt(wrong)).get();
        return what == 0 ? wrong.applyAsInt(best) : best.get(what - 10);
    }

    int begin(int what) {
        if (notOneOf(what, 1)) {
            return BAD;
        }
        int best = 0;
        for (int v = 1; v < 24; v++) {
            best = startedAt(v).wrong() < startedAt(best).wrong() ? v : best;
        }
        return what == 0 ? best : startedAt(best).wrong();
    }

    private World startedAt(int v) {
        World w = now.copy();
        w.start = v;
        return w;
    }

    private World with(int b, int what, int v) {
        World w = now.copy();
        w.boxes.get(b)[what] = v;
        return w;
    }

    int swap(int what) {
        if (notOneOf(what, 1)) {
            return BAD;
        }
        int best = NONE, least = now.wrong();
        for (int i = 4; i >= 0; i--) {
            for (int k = 4; k > i; k--) {
                if (!no(k)) {
                    World w = now.copy();
                    Collections.swap(w.order, i, k);
                    if (w.wrong() < least || w.wrong() == least && best != NONE) {
                        best = 10 * i + k;
                        least = w.wrong();
                    }
                }
            }
        }
        return best == NONE ? NONE : what == 0 ? best : least;
    }

    int longer(int b) {
        if (no(b)) {
            return BAD;
        }
        int[] box = now.boxes.get(b);
        int more = Math.floorMod(box[2] - now.done(b), 24);
        return more <= 11 && box[1] + more <= 12 ? more : NONE;
    }

    int when(int b, int hour, int v) {
        if (no(b) || noHour(hour) || noHour(v)) {
            return BAD;
        }
        for (int opened = 0; opened < 24; opened++) {
            if (with(b, 4, opened).day()[now.boxes.get(b)[5]][hour][0] == v) {
                return opened;
            }
        }
        return NONE;
    }

    int wake(int b, int what) {
        return fewestYawns(b, 4, what);
    }

    int where(int b, int what) {
        return fewestYawns(b, 5, what);
    }

    private int fewestYawns(int b, int fact, int what) {
        if (no(b) || notOneOf(what, 1)) {
            return BAD;
        }
        int best = 0;
        for (int v = 1; v <= MOST[fact]; v++) {
            best = with(b, fact, v).yawns() < with(b, fact, best).yawns() ? v : best;
        }
        return what == 0 ? best : with(b, fact, best).yawns();
    }

    /** Goes through which BOXES take longer; by b below 0 the mean of WRONG. */
    private long odds(int v, int b, int what) {
        int n = now.boxes.size();
        long upper = 0, lower = 1;
        for (int i = 0; i < n; i++) {
            lower *= 10;
        }
        for (int set = 0; set < 1 << n; set++) {
            World w = now.copy();
            long weight = 1;
            for (int i = 0; i < n; i++) {
                int more = set >> i & 1;
                w.boxes.get(i)[1] += more;
                weight *= more == 1 ? v : 10 - v;
            }
            upper += weight * (b < 0 ? w.wrong() : w.done(b) % 24 == w.boxes.get(b)[2] ? 1 : 0);
        }
        long by = BigInteger.valueOf(upper).gcd(BigInteger.valueOf(lower)).longValue();
        return what == 0 ? upper / by : lower / by;
    }

    long luck(int v, int b, int what) {
        return notOneOf(v, 10) || no(b) || notOneOf(what, 1) ? BAD : odds(v, b, what);
    }

    long mean(int v, int what) {
        return notOneOf(v, 10) || notOneOf(what, 1) ? BAD : odds(v, -1, what);
    }

    int see(int room, int hour, int v) {
        if (noRoom(room) || noHour(hour) || noHour(v)) {
            return BAD;
        }
        if (now.seen.size() == 6) {
            return FULL;
        }
        now.seen.add(new int[] {room, hour, v});
        return now.seen.size();
    }

    int forget(int n) {
        int had = now.seen.size();
        if (n < 0 || n > had) {
            return BAD;
        }
        now.seen = new ArrayList<>(now.seen.subList(0, n));
        return had;
    }

    int starts() {
        int bits = 0;
        for (int v = 0; v < 24; v++) {
            bits += startedAt(v).asSeen() ? 1 << v : 0;
        }
        return bits;
    }

    int kinds(int b) {
        return factsAsSeen(b, 0);
    }

    int works(int b) {
        return factsAsSeen(b, 1);
    }

    private int factsAsSeen(int b, int what) {
        if (no(b)) {
            return BAD;
        }
        int bits = 0;
        for (int v = LEAST[what]; v <= MOST[what]; v++) {
            bits += with(b, what, v).asSeen() ? 1 << v : 0;
        }
        return bits;
    }

    int ask(int what) {
        if (notOneOf(what, 1)) {
            return BAD;
        }
        int starts = starts(), best = NONE, fewest = Integer.bitCount(starts);
        int[][][][] days = new int[24][][][];
        for (int v = 0; v < 24; v++) {
            days[v] = startedAt(v).day();
        }
        for (int room = 0; room < 5; room++) {
            for (int hour = 0; hour < 24; hour++) {
                int[] left = new int[24];
                for (int v = 0; v < 24; v++) {
                    left[days[v][room][hour][0]] += starts >> v & 1;
                }
                int worst = Arrays.stream(left).max().getAsInt();
                if (worst < fewest) {
                    fewest = worst;
                    best = 100 * room + hour;
                }
            }
        }
        return best == NONE ? NONE : what == 0 ? best : fewest;
    }

    int drift(int seed, int n, int what) {
        if (n < 1 || n > 60 || notOneOf(what, 1)) {
            return BAD;
        }
        int boxes = now.boxes.size();
        if (boxes == 0) {
            return STATE;
        }
        World w = now.copy();
        BigInteger s = BigInteger.valueOf(seed);
        int sum = 0;
        for (int i = 0; i < n; i++) {
            s = s.multiply(BigInteger.valueOf(1103515245)).add(BigInteger.valueOf(12345));
            int got = s.shiftRight(16).mod(BigInteger.valueOf(32768)).intValue();
            Collections.swap(w.order, got % boxes, got / 8 % boxes);
            w.start = got / 64 % 24;
            sum += w.wrong();
        }
        return what == 0 ? sum : w.yawns();
    }

    int keep(int k) {
        if (notOneOf(k, 1)) {
            return BAD;
        }
        int was = images[k] == null ? 0 : 1;
        images[k] = now.copy();
        return was;
    }

    int back(int k) {
        if (notOneOf(k, 1)) {
            return BAD;
        }
        if (images[k] == null) {
            return STATE;
        }
        now = images[k].copy();
        return now.start;
    }

    int sheet(int k, int lane, int n) {
        if (notOneOf(k, 3) || notOneOf(lane, 2) || n > 40) {
            return BAD;
        }
        try {
            sheets[k] = lane == 0 ? new byte[n] : lane == 1 ? (Object) new short[n] : new int[n];
            return 1;
        } catch (NegativeArraySizeException e) {
            return -14;
        }
    }

    int lay(int k, int i, int v) {
        if (notOneOf(k, 3)) {
            return BAD;
        }
        try {
            if (sheets[k] instanceof byte[]) {
                ((byte[]) sheets[k])[i] = (byte) v;
            } else if (sheets[k] instanceof short[]) {
                ((short[]) sheets[k])[i] = (short) v;
            } else {
                ((int[]) sheets[k])[i] = v;
            }
            return 1;
        } catch (NullPointerException e) {
            return -11;
        } catch (ArrayIndexOutOfBoundsException e) {
            return -12;
        }
    }

    private int cell(int k, int lane, int i) {
        return lane == 0 ? ((byte[]) sheets[k])[i] : lane == 1 ? ((short[]) sheets[k])[i] : ((int[]) sheets[k])[i];
    }

    int read(int k, int lane, int f, int n) {
        if (notOneOf(k, 3) || notOneOf(lane, 2) || notOneOf(n, 13)) {
            return BAD;
        }
        World w = now.copy();
        int found = 0, came = 0;
        try {
            for (int i = 0; i < n; i++) {
                int kind = cell(k, lane, f + 3 * i);
                int work = cell(k, lane, f + 3 * i + 1);
                int wanted = cell(k, lane, f + 3 * i + 2);
                if (sewIn(w, kind, work, wanted) < 0) {
                    return -20 - i;
                }
                came++;
            }
        } catch (NullPointerException e) {
            found = 1;
        } catch (ArrayIndexOutOfBoundsException e) {
            found = 2;
        } catch (ClassCastException e) {
            found = 3;
        }
        now = w;
        torn = found;
        return came;
    }

    int torn() {
        return torn;
    }

    int count(int what) {
        switch (what) {
            case 0: return now.seen.size();
            case 1: return (images[0] == null ? 0 : 1) + (images[1] == null ? 0 : 1);
            case 2: return tape.length();
            case 3: return sheets[0] == null ? NONE : java.lang.reflect.Array.getLength(sheets[0]);
            case 4: return now.boxes.stream().mapToInt(b -> b[3]).sum();
            default: return BAD;
        }
    }
}
