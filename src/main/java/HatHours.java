/**
 * A milliner's boxes, each sent home with the hour at which it was done.
 * The rows that the searches need are made once, here, so that no call makes an object.
 */
public final class HatHours {
    public static final int BAD = -1, STATE = -2, FULL = -3, NONE = -4;

    private static final int HOURS = 24, ROOMS = 5, FIRST_WAKING_HOUR = 6;
    private static final int MOST_WORK = 12, MOST_LONGER = 11;
    private static final int FAULT_BASE = -10, REFUSED_BASE = -20;
    private static final int MOST_READ = 13, CELLS_OF_ONE = 3, MOST_DRIFT = 60;
    private static final int BEST_PLACES = 10, TENTHS = 10;

    private final Tape tape = new Tape();
    private final TextReader reader = new TextReader(tape);
    private final Shop shop = new Shop();
    private final Sightings seen = new Sightings();
    private final Image[] images = {new Image(), new Image()};
    private final Sheets sheets = new Sheets();
    private final Search search = new Search();
    private final Odds odds = new Odds();
    private int lastFault;
    private int lastTorn;

    public HatHours() {
    }

    // ---- the text

    public int feed(int c) {
        if (!within(c, 0, 127)) {
            return BAD;
        }
        if (tape.isFull()) {
            return FULL;
        }
        tape.append(c);
        return tape.size();
    }

    public int end(int n) {
        int had = tape.size();
        if (!within(n, 0, had)) {
            return BAD;
        }
        tape.cut(n);
        return had;
    }

    public int text() {
        boolean taken = reader.takesAll();
        tape.cut(0);
        lastFault = reader.faultFound();
        if (!taken) {
            return FAULT_BASE - reader.faultPlace();
        }
        shop.copyFrom(reader.draft());
        seen.cut(0);
        for (Image image : images) {
            image.drop();
        }
        return reader.linesRead();
    }

    public int fault() {
        return lastFault;
    }

    public int rule(int what) {
        switch (what) {
            case 0: return shop.size();
            case 1: return shop.startHour();
            case 2: return shop.sumOf(Shop.WORK);
            case 3: return shop.wrongOfAll();
            case 4: return shop.yawnsOfAll();
            case 5: return shop.strangeHoursOfAll();
            default: return BAD;
        }
    }

    public int box(int b, int what) {
        if (!shop.has(b)) {
            return BAD;
        }
        switch (what) {
            case 6: return Shop.lastsOf(shop.fact(b, Shop.KIND));
            case 7: return shop.ownHour(b);
            case 8: return shop.wrongOf(b, shop.ownHour(b));
            case 9: return shop.placeOf(b);
            default: return shop.fact(b, what);
        }
    }

    public int order(int i, int what) {
        if (!shop.has(i) || !isEither(what)) {
            return BAD;
        }
        return what == 0 ? shop.boxIn(i) : shop.doneIn(i);
    }

    // ---- what is changed

    public int alter(int b, int what, int v) {
        if (!shop.has(b) || !Shop.fits(what, v)) {
            return BAD;
        }
        int was = shop.fact(b, what);
        shop.setFact(b, what, v);
        return was;
    }

    public int start(int v) {
        if (!isHour(v)) {
            return BAD;
        }
        int was = shop.startHour();
        shop.setStart(v);
        return was;
    }

    public int change(int i, int k) {
        if (!shop.has(i) || !shop.has(k) || i == k) {
            return BAD;
        }
        int was = shop.boxIn(i);
        shop.exchange(i, k);
        return was;
    }

    public int sew(int kind, int work, int wanted) {
        int answer = shop.refusal(kind, work, wanted);
        if (answer != 0) {
            return answer;
        }
        shop.addPlain(kind, work, wanted);
        return shop.size();
    }

    // ---- the day

    public int clock(int room, int hour, int what) {
        if (!isRoom(room) || !isHour(hour) || !isEither(what)) {
            return BAD;
        }
        return what == 0 ? shop.oclock(room, hour) : shop.boxAt(room, hour);
    }

    public int room(int r, int what) {
        if (!isRoom(r) || !isEither(what)) {
            return BAD;
        }
        return what == 0 ? shop.yawnsIn(r) : shop.strangeHoursIn(r);
    }

    public int out(int b) {
        return shop.has(b) ? shop.hoursBy(b) : BAD;
    }

    public int meet(int r, int q) {
        if (!isRoom(r) || !isRoom(q) || r == q) {
            return BAD;
        }
        for (int hour = 0; hour < HOURS; hour++) {
            boolean byBoxes = shop.boxAt(r, hour) != NONE && shop.boxAt(q, hour) != NONE;
            if (byBoxes && shop.oclock(r, hour) == shop.oclock(q, hour)) {
                return hour;
            }
        }
        return NONE;
    }

    public int first(int r, int v) {
        if (!isRoom(r) || !isHour(v)) {
            return BAD;
        }
        for (int hour = 0; hour < HOURS; hour++) {
            if (shop.oclock(r, hour) == v) {
                return hour;
            }
        }
        return NONE;
    }

    // ---- what is best

    public int best(int what) {
        int place = what - BEST_PLACES;
        if (what != 0 && (what < BEST_PLACES || !shop.has(place))) {
            return BAD;
        }
        search.bestOrder(shop);
        return what == 0 ? search.told(1) : search.bestBoxIn(place);
    }

    public int begin(int what) {
        if (!isEither(what)) {
            return BAD;
        }
        search.bestStart(shop);
        return search.told(what);
    }

    public int swap(int what) {
        if (!isEither(what)) {
            return BAD;
        }
        search.bestExchange(shop);
        return search.told(what);
    }

    public int longer(int b) {
        return shop.has(b) ? search.leastLonger(shop, b) : BAD;
    }

    public int when(int b, int hour, int v) {
        if (!shop.has(b) || !isHour(hour) || !isHour(v)) {
            return BAD;
        }
        return search.firstOpening(shop, b, hour, v);
    }

    public int wake(int b, int what) {
        return fewestYawns(b, Shop.OPENED, what);
    }

    public int where(int b, int what) {
        return fewestYawns(b, Shop.ROOM, what);
    }

    private int fewestYawns(int b, int fact, int what) {
        if (!shop.has(b) || !isEither(what)) {
            return BAD;
        }
        search.fewestYawns(shop, b, fact);
        return search.told(what);
    }

    // ---- work that takes longer

    public long luck(int v, int b, int what) {
        if (!within(v, 0, TENTHS) || !shop.has(b) || !isEither(what)) {
            return BAD;
        }
        odds.ofWantedHour(shop, b, v);
        return odds.told(what);
    }

    public long mean(int v, int what) {
        if (!within(v, 0, TENTHS) || !isEither(what)) {
            return BAD;
        }
        odds.ofMeanWrong(shop, v);
        return odds.told(what);
    }

    // ---- from what o'clock it was where

    public int see(int room, int hour, int v) {
        if (!isRoom(room) || !isHour(hour) || !isHour(v)) {
            return BAD;
        }
        if (seen.isFull()) {
            return FULL;
        }
        seen.add(room, hour, v);
        return seen.size();
    }

    public int forget(int n) {
        int had = seen.size();
        if (!within(n, 0, had)) {
            return BAD;
        }
        seen.cut(n);
        return had;
    }

    public int starts() {
        return search.startsAsSeen(shop, seen);
    }

    public int kinds(int b) {
        return shop.has(b) ? search.factsAsSeen(shop, seen, b, Shop.KIND) : BAD;
    }

    public int works(int b) {
        return shop.has(b) ? search.factsAsSeen(shop, seen, b, Shop.WORK) : BAD;
    }

    public int ask(int what) {
        if (!isEither(what)) {
            return BAD;
        }
        search.bestLook(shop, search.startsAsSeen(shop, seen));
        return search.told(what);
    }

    // ---- by a seed

    public int drift(int seed, int n, int what) {
        if (!within(n, 1, MOST_DRIFT) || !isEither(what)) {
            return BAD;
        }
        if (shop.size() == 0) {
            return STATE;
        }
        return search.drifted(shop, seed, n, what);
    }

    // ---- images, sheets

    public int keep(int k) {
        if (!isEither(k)) {
            return BAD;
        }
        int was = images[k].isThere() ? 1 : 0;
        images[k].take(shop, seen);
        return was;
    }

    public int back(int k) {
        if (!isEither(k)) {
            return BAD;
        }
        if (!images[k].isThere()) {
            return STATE;
        }
        images[k].giveBack(shop, seen);
        return shop.startHour();
    }

    public int sheet(int k, int lane, int n) {
        if (!Sheets.has(k) || !Sheets.isLane(lane) || n > Sheets.MOST_CELLS) {
            return BAD;
        }
        if (n < 0) {
            return FAULT_BASE - Sheets.SIZE;
        }
        sheets.renew(k, lane, n);
        return 1;
    }

    public int lay(int k, int i, int v) {
        if (!Sheets.has(k)) {
            return BAD;
        }
        int found = sheets.faultAt(k, sheets.laneOf(k), i);
        if (found != 0) {
            return FAULT_BASE - found;
        }
        sheets.put(k, i, v);
        return 1;
    }

    public int read(int k, int lane, int f, int n) {
        if (!Sheets.has(k) || !Sheets.isLane(lane) || !within(n, 0, MOST_READ)) {
            return BAD;
        }
        // All is sewn in a draft first: if one is refused, none may have come.
        Shop draft = search.draftOf(shop);
        int found = 0;
        int came = 0;
        for (int i = 0; i < n && found == 0; i++) {
            int cell = f + CELLS_OF_ONE * i;
            found = sheets.faultOfThree(k, lane, cell);
            if (found == 0) {
                if (!sewnFromCells(draft, k, cell)) {
                    return REFUSED_BASE - i;
                }
                came++;
            }
        }
        shop.copyFrom(draft);
        lastTorn = found;
        return came;
    }

    private boolean sewnFromCells(Shop draft, int k, int cell) {
        int kind = sheets.cellAt(k, cell);
        int work = sheets.cellAt(k, cell + 1);
        int wanted = sheets.cellAt(k, cell + 2);
        if (draft.refusal(kind, work, wanted) != 0) {
            return false;
        }
        draft.addPlain(kind, work, wanted);
        return true;
    }

    public int torn() {
        return lastTorn;
    }

    public int count(int what) {
        switch (what) {
            case 0: return seen.size();
            case 1: return imagesThere();
            case 2: return tape.size();
            case 3: return sheets.sizeOf(0);
            case 4: return shop.sumOf(Shop.WORTH);
            default: return BAD;
        }
    }

    private int imagesThere() {
        int there = 0;
        for (Image image : images) {
            if (image.isThere()) {
                there++;
            }
        }
        return there;
    }

    private static boolean within(int v, int least, int most) {
        return v >= least && v <= most;
    }

    private static boolean isEither(int v) {
        return v == 0 || v == 1;
    }

    private static boolean isHour(int v) {
        return within(v, 0, HOURS - 1);
    }

    private static boolean isRoom(int v) {
        return within(v, 0, ROOMS - 1);
    }

    /** BOXES, THE ORDER and START, and all that follows from them alone. */
    private static final class Shop {
        static final int KIND = 0, WORK = 1, WANTED = 2, WORTH = 3, OPENED = 4, ROOM = 5;
        static final int MOST_BOXES = 5;
        private static final int FACTS = 6, FIRST_START = 6;
        private static final int PLAIN_WORTH = 1, PLAIN_OPENED = 8, PLAIN_ROOM = 0;
        private static final int[] LEAST = {0, 1, 0, 1, 0, 0};
        private static final int[] MOST = {3, 12, 23, 9, 23, 4};
        private static final int[] LASTS = {4, 2, 3, 8};

        /** KIND, WORK and so on of BOX 0, then of BOX 1, and so on. */
        private final int[] facts = new int[FACTS * MOST_BOXES];
        private final int[] places = new int[MOST_BOXES];
        private int boxes = 0;
        private int startsAt = FIRST_START;

        void clear() {
            boxes = 0;
            startsAt = FIRST_START;
        }

        void copyFrom(Shop other) {
            System.arraycopy(other.facts, 0, facts, 0, facts.length);
            System.arraycopy(other.places, 0, places, 0, places.length);
            boxes = other.boxes;
            startsAt = other.startsAt;
        }

        static boolean isFact(int what) {
            return within(what, KIND, ROOM);
        }

        static int least(int what) {
            return isFact(what) ? LEAST[what] : 0;
        }

        static int most(int what) {
            return isFact(what) ? MOST[what] : 0;
        }

        static boolean fits(int what, int v) {
            return isFact(what) && within(v, LEAST[what], MOST[what]);
        }

        int size() {
            return boxes;
        }

        boolean isFull() {
            return boxes >= MOST_BOXES;
        }

        /** There are as many PLACES as BOXES, so this tells of a PLACE too. */
        boolean has(int b) {
            return b >= 0 && b < boxes;
        }

        int startHour() {
            return startsAt;
        }

        void setStart(int hour) {
            startsAt = hour;
        }

        int fact(int b, int what) {
            boolean there = b >= 0 && b < boxes && what >= KIND && what <= ROOM;
            return there ? facts[b * FACTS + what] : BAD;
        }

        void setFact(int b, int what, int v) {
            if (b >= 0 && b < boxes && what >= KIND && what <= ROOM) {
                facts[b * FACTS + what] = v;
            }
        }

        int sumOf(int what) {
            int sum = 0;
            for (int b = 0; b < boxes; b++) {
                sum += fact(b, what);
            }
            return sum;
        }

        /** 0: such a BOX may be sewn now. */
        int refusal(int kind, int work, int wanted) {
            if (!fits(KIND, kind) || !fits(WORK, work) || !fits(WANTED, wanted)) {
                return BAD;
            }
            return isFull() ? FULL : 0;
        }

        /** A BOX more, the last in THE ORDER; NONE: there is no space for it. */
        int addPlain(int kind, int work, int wanted) {
            if (isFull()) {
                return NONE;
            }
            int b = boxes;
            boxes++;
            places[b] = b;
            setFact(b, KIND, kind);
            setFact(b, WORK, work);
            setFact(b, WANTED, wanted);
            setFact(b, WORTH, PLAIN_WORTH);
            setFact(b, OPENED, PLAIN_OPENED);
            setFact(b, ROOM, PLAIN_ROOM);
            return b;
        }

        int boxIn(int place) {
            return has(place) ? places[place] : NONE;
        }

        int placeOf(int b) {
            for (int i = 0; i < boxes; i++) {
                if (places[i] == b) {
                    return i;
                }
            }
            return NONE;
        }

        void exchange(int i, int k) {
            if (has(i) && has(k)) {
                int held = places[i];
                places[i] = places[k];
                places[k] = held;
            }
        }

        void orderByNumber() {
            for (int i = 0; i < boxes; i++) {
                places[i] = i;
            }
        }

        /** Brings a BOX to a PLACE; those from there on move one back, as they stand. */
        void bringTo(int place, int b) {
            int from = placeOf(b);
            for (int i = from; i > place && i > 0; i--) {
                exchange(i, i - 1);
            }
        }

        /** The next of all orders, as words by their letters; false: this was the last. */
        boolean nextOrder() {
            int i = boxes - 2;
            while (i >= 0 && places[i] > places[i + 1]) {
                i--;
            }
            if (i < 0) {
                return false;
            }
            int k = boxes - 1;
            while (k > i && places[k] < places[i]) {
                k--;
            }
            exchange(i, k);
            for (int a = i + 1, z = boxes - 1; a < z; a++, z--) {
                exchange(a, z);
            }
            return true;
        }

        int doneIn(int place) {
            int done = startsAt;
            for (int i = 0; i <= place && i < boxes; i++) {
                done += fact(places[i], WORK);
            }
            return done;
        }

        int ownHour(int b) {
            int done = startsAt;
            for (int i = 0; i < boxes; i++) {
                done += fact(places[i], WORK);
                if (places[i] == b) {
                    break;
                }
            }
            return done % HOURS;
        }

        int wrongOf(int b, int own) {
            int apart = Math.floorMod(own - fact(b, WANTED), HOURS);
            return fact(b, WORTH) * Math.min(apart, HOURS - apart);
        }

        int wrongOfAll() {
            int wrong = 0;
            int done = startsAt;
            for (int i = 0; i < boxes; i++) {
                done += fact(places[i], WORK);
                wrong += wrongOf(places[i], done);
            }
            return wrong;
        }

        static int lastsOf(int kind) {
            return kind >= 0 && kind < LASTS.length ? LASTS[kind] : 0;
        }

        /** The BOX that tells what o'clock it is; NONE: none is OUT there. */
        int boxAt(int room, int hour) {
            int found = NONE;
            int latest = 0;
            for (int b = 0; b < boxes; b++) {
                int opened = fact(b, OPENED);
                boolean maybe = fact(b, ROOM) == room && opened >= latest && opened <= hour;
                if (maybe && hour - opened < lastsOf(fact(b, KIND))) {
                    found = b;
                    latest = opened;
                }
            }
            return found;
        }

        int oclockBy(int b, int hour) {
            return Math.floorMod(ownHour(b) + hour - fact(b, OPENED), HOURS);
        }

        int oclock(int room, int hour) {
            int b = boxAt(room, hour);
            return b == NONE ? hour : oclockBy(b, hour);
        }

        int hoursBy(int b) {
            int opened = Math.max(0, fact(b, OPENED));
            int room = fact(b, ROOM);
            int behind = Math.min(HOURS, opened + lastsOf(fact(b, KIND)));
            int bits = 0;
            for (int hour = opened; hour < behind; hour++) {
                if (boxAt(room, hour) == b) {
                    bits |= 1 << hour;
                }
            }
            return bits;
        }

        /** YAWNS are by BOXES alone: where none is OUT, it is as late as the HOUR. */
        private int yawnsBy(int b) {
            int opened = fact(b, OPENED);
            int room = fact(b, ROOM);
            int behind = Math.min(HOURS, opened + lastsOf(fact(b, KIND)));
            int own = ownHour(b);
            int yawns = 0;
            for (int hour = Math.max(opened, FIRST_WAKING_HOUR); hour < behind; hour++) {
                int oclock = (own + hour - opened) % HOURS;
                if (oclock < FIRST_WAKING_HOUR && boxAt(room, hour) == b) {
                    yawns++;
                }
            }
            return yawns;
        }

        int yawnsIn(int room) {
            int yawns = 0;
            for (int b = 0; b < boxes; b++) {
                if (fact(b, ROOM) == room) {
                    yawns += yawnsBy(b);
                }
            }
            return yawns;
        }

        int yawnsOfAll() {
            int yawns = 0;
            for (int b = 0; b < boxes; b++) {
                yawns += yawnsBy(b);
            }
            return yawns;
        }

        int strangeHoursIn(int room) {
            int bits = 0;
            for (int hour = 0; hour < HOURS; hour++) {
                if (oclock(room, hour) != hour) {
                    bits |= 1 << hour;
                }
            }
            return bits;
        }

        int strangeHoursOfAll() {
            int strange = 0;
            for (int room = 0; room < ROOMS; room++) {
                strange += Integer.bitCount(strangeHoursIn(room));
            }
            return strange;
        }
    }

    /** What was SEEN, in the order in which it was. */
    private static final class Sightings {
        private static final int MOST_SEEN = 6;

        private final int[] rooms = new int[MOST_SEEN];
        private final int[] hours = new int[MOST_SEEN];
        private final int[] oclocks = new int[MOST_SEEN];
        private int used = 0;

        int size() {
            return used;
        }

        boolean isFull() {
            return used >= MOST_SEEN;
        }

        void add(int room, int hour, int oclock) {
            if (!isFull()) {
                rooms[used] = room;
                hours[used] = hour;
                oclocks[used] = oclock;
                used++;
            }
        }

        void cut(int n) {
            if (within(n, 0, used)) {
                used = n;
            }
        }

        void copyFrom(Sightings other) {
            System.arraycopy(other.rooms, 0, rooms, 0, MOST_SEEN);
            System.arraycopy(other.hours, 0, hours, 0, MOST_SEEN);
            System.arraycopy(other.oclocks, 0, oclocks, 0, MOST_SEEN);
            used = other.used;
        }

        boolean agreeWith(Shop shop) {
            for (int i = 0; i < used; i++) {
                if (shop.oclock(rooms[i], hours[i]) != oclocks[i]) {
                    return false;
                }
            }
            return true;
        }
    }

    /** All as it was once, if it was kept. */
    private static final class Image {
        private final Shop shop = new Shop();
        private final Sightings seen = new Sightings();
        private boolean there = false;

        boolean isThere() {
            return there;
        }

        void drop() {
            there = false;
        }

        void take(Shop fromShop, Sightings fromSeen) {
            shop.copyFrom(fromShop);
            seen.copyFrom(fromSeen);
            there = true;
        }

        void giveBack(Shop toShop, Sightings toSeen) {
            toShop.copyFrom(shop);
            toSeen.copyFrom(seen);
        }
    }

    /** The bytes that were fed. */
    private static final class Tape {
        static final int MOST_BYTES = 160;

        private final byte[] bytes = new byte[MOST_BYTES];
        private int used = 0;

        int size() {
            return used;
        }

        boolean isFull() {
            return used >= MOST_BYTES;
        }

        void append(int c) {
            if (!isFull()) {
                bytes[used] = (byte) c;
                used++;
            }
        }

        void cut(int n) {
            if (within(n, 0, used)) {
                used = n;
            }
        }

        /** NONE: the tape does not go as far. */
        int at(int place) {
            return place >= 0 && place < used ? bytes[place] : NONE;
        }
    }

    /** Reads THE TAPE into a draft, up to its first FAULT. */
    private static final class TextReader {
        private static final int END = 0, NAME = 1, NUMBER = 2, STOP = 3;
        private static final int ORDER_LINE = 4, START_LINE = 5;
        private static final int NO_TOKEN = 1, NOT_THERE = 2, OUT_OF_BOUNDS = 3;
        private static final int SECOND_TIME = 4, SIXTH_BOX = 5, NO_SUCH_BOX = 6;
        private static final int BLANK = 32, LONGEST_NUMBER = 2;

        private final Tape tape;
        private final Shop draft = new Shop();
        private final int[] ahead = new int[Shop.MOST_BOXES];
        private int aheadUsed = 0;
        private boolean orderTold = false;
        private boolean startTold = false;
        private int lines = 0;
        private int foundFault = 0;
        private int foundPlace = 0;
        private int next = 0;
        private int token = END;
        private int tokenPlace = 0;
        private int number = 0;

        TextReader(Tape tape) {
            this.tape = tape;
        }

        Shop draft() {
            return draft;
        }

        int linesRead() {
            return lines;
        }

        int faultFound() {
            return foundFault;
        }

        int faultPlace() {
            return foundPlace;
        }

        boolean takesAll() {
            beginAnew();
            for (int line = 0; line <= Tape.MOST_BYTES; line++) {
                if (!takesToken()) {
                    return false;
                }
                if (token == END) {
                    return takesOrder();
                }
                if (!takesLine()) {
                    return false;
                }
                lines++;
            }
            return failed(NOT_THERE, tokenPlace);
        }

        private void beginAnew() {
            draft.clear();
            aheadUsed = 0;
            orderTold = false;
            startTold = false;
            lines = 0;
            foundFault = 0;
            foundPlace = 0;
            next = 0;
        }

        private boolean failed(int fault, int place) {
            foundFault = fault;
            foundPlace = place;
            return false;
        }

        private boolean takesLine() {
            int line = token == NAME ? lineOfName() : NONE;
            switch (line) {
                case NONE: return failed(NOT_THERE, tokenPlace);
                case ORDER_LINE: return takesOrderLine();
                case START_LINE: return takesStartLine() && takesStop();
                default: return takesBoxLine(line) && takesStop();
            }
        }

        /** The KIND of a BOX's line, or one of the two others. */
        private int lineOfName() {
            if (nameIs("bonnet")) {
                return 0;
            }
            if (nameIs("veil")) {
                return 1;
            }
            if (nameIs("toque")) {
                return 2;
            }
            if (nameIs("bridal")) {
                return 3;
            }
            if (nameIs("order")) {
                return ORDER_LINE;
            }
            return nameIs("start") ? START_LINE : NONE;
        }

        private boolean nameIs(String word) {
            if (next - tokenPlace != word.length()) {
                return false;
            }
            for (int i = 0; i < word.length(); i++) {
                if (tape.at(tokenPlace + i) != word.charAt(i)) {
                    return false;
                }
            }
            return true;
        }

        private boolean takesBoxLine(int kind) {
            if (draft.isFull()) {
                return failed(SIXTH_BOX, tokenPlace);
            }
            int b = draft.addPlain(kind, 1, 0);
            for (int what = Shop.WORK; what <= Shop.ROOM; what++) {
                if (!takesToken() || !isNumberWithin(Shop.least(what), Shop.most(what))) {
                    return false;
                }
                draft.setFact(b, what, number);
            }
            return true;
        }

        private boolean takesStartLine() {
            if (startTold) {
                return failed(SECOND_TIME, tokenPlace);
            }
            startTold = true;
            if (!takesToken() || !isNumberWithin(0, HOURS - 1)) {
                return false;
            }
            draft.setStart(number);
            return true;
        }

        private boolean takesOrderLine() {
            if (orderTold) {
                return failed(SECOND_TIME, tokenPlace);
            }
            orderTold = true;
            // Once all are in, whatever NUMBER comes is a fault: the bound is never met.
            for (int i = 0; i <= Shop.MOST_BOXES; i++) {
                if (!takesToken()) {
                    return false;
                }
                if (token == STOP) {
                    return true;
                }
                if (!isNumberWithin(0, Shop.MOST_BOXES - 1)) {
                    return false;
                }
                if (isAhead(number) || aheadUsed >= ahead.length) {
                    return failed(SECOND_TIME, tokenPlace);
                }
                ahead[aheadUsed] = number;
                aheadUsed++;
            }
            return failed(NOT_THERE, tokenPlace);
        }

        private boolean isAhead(int b) {
            for (int i = 0; i < aheadUsed; i++) {
                if (ahead[i] == b) {
                    return true;
                }
            }
            return false;
        }

        private boolean takesOrder() {
            for (int i = 0; i < aheadUsed; i++) {
                if (!draft.has(ahead[i])) {
                    return failed(NO_SUCH_BOX, tape.size());
                }
                draft.bringTo(i, ahead[i]);
            }
            return true;
        }

        private boolean isNumberWithin(int least, int most) {
            if (token != NUMBER) {
                return failed(NOT_THERE, tokenPlace);
            }
            return within(number, least, most) || failed(OUT_OF_BOUNDS, tokenPlace);
        }

        private boolean takesStop() {
            return takesToken() && (token == STOP || failed(NOT_THERE, tokenPlace));
        }

        private boolean takesToken() {
            while (next < tape.size() && tape.at(next) == BLANK) {
                next++;
            }
            tokenPlace = next;
            if (next >= tape.size()) {
                token = END;
                return true;
            }
            int c = tape.at(next);
            if (c == ';') {
                token = STOP;
                next++;
                return true;
            }
            if (isLetter(c)) {
                token = NAME;
                passName();
                return true;
            }
            token = NUMBER;
            return (isFigure(c) && passNumber()) || failed(NO_TOKEN, tokenPlace);
        }

        private void passName() {
            while (next < tape.size() && isLetter(tape.at(next))) {
                next++;
            }
        }

        private boolean passNumber() {
            number = 0;
            while (next < tape.size() && isFigure(tape.at(next))) {
                if (next - tokenPlace >= LONGEST_NUMBER) {
                    return false;
                }
                number = number * 10 + tape.at(next) - '0';
                next++;
            }
            return true;
        }

        private static boolean isLetter(int c) {
            return c >= 'a' && c <= 'z';
        }

        private static boolean isFigure(int c) {
            return c >= '0' && c <= '9';
        }
    }

    /** The first of what is offered that is least, below a limit. */
    private static final class Least {
        private int at = NONE;
        private int value = 0;

        void seekBelow(int limit) {
            at = NONE;
            value = limit;
        }

        boolean offer(int candidate, int offered) {
            if (offered >= value) {
                return false;
            }
            at = candidate;
            value = offered;
            return true;
        }

        int at() {
            return at;
        }

        /** Where nothing was below the limit: NONE. */
        int value() {
            return at == NONE ? NONE : value;
        }

        boolean mayBecomeLess(int floor) {
            return value > floor;
        }
    }

    /** Tries in a draft what might be otherwise; the shop itself stays as it is. */
    private static final class Search {
        private static final int NO_LIMIT = 1000000, MOST_ORDERS = 120;
        private static final int SEED_TIMES = 1103515245, SEED_MORE = 12345;
        private static final int GOT_SHIFT = 16, GOT_MASK = 32767;
        private static final int SECOND_PLACE_BY = 8, START_BY = 64;
        private static final int PLACE_TIMES = 10, ROOM_TIMES = 100;

        private final Shop draft = new Shop();
        private final Least least = new Least();
        private final int[] bestPlaces = new int[Shop.MOST_BOXES];
        private final int[] startsLeft = new int[HOURS];

        Shop draftOf(Shop shop) {
            draft.copyFrom(shop);
            return draft;
        }

        /** Of the latest search: what is best (0), how much it comes to (1). */
        int told(int what) {
            return what == 0 ? least.at() : least.value();
        }

        void bestOrder(Shop shop) {
            draft.copyFrom(shop);
            draft.orderByNumber();
            least.seekBelow(NO_LIMIT);
            boolean more = true;
            for (int turn = 0; turn < MOST_ORDERS && more; turn++) {
                if (least.offer(turn, draft.wrongOfAll())) {
                    holdPlaces();
                }
                more = draft.nextOrder();
            }
        }

        private void holdPlaces() {
            for (int i = 0; i < draft.size() && i < bestPlaces.length; i++) {
                bestPlaces[i] = draft.boxIn(i);
            }
        }

        int bestBoxIn(int place) {
            return within(place, 0, bestPlaces.length - 1) ? bestPlaces[place] : NONE;
        }

        void bestStart(Shop shop) {
            draft.copyFrom(shop);
            least.seekBelow(NO_LIMIT);
            for (int hour = 0; hour < HOURS; hour++) {
                draft.setStart(hour);
                least.offer(hour, draft.wrongOfAll());
            }
        }

        void bestExchange(Shop shop) {
            draft.copyFrom(shop);
            least.seekBelow(shop.wrongOfAll());
            for (int i = 0; i < draft.size(); i++) {
                for (int k = i + 1; k < draft.size(); k++) {
                    draft.exchange(i, k);
                    least.offer(PLACE_TIMES * i + k, draft.wrongOfAll());
                    draft.exchange(i, k);
                }
            }
        }

        int leastLonger(Shop shop, int b) {
            draft.copyFrom(shop);
            int work = shop.fact(b, Shop.WORK);
            int wanted = shop.fact(b, Shop.WANTED);
            for (int more = 0; more <= MOST_LONGER && work + more <= MOST_WORK; more++) {
                draft.setFact(b, Shop.WORK, work + more);
                if (draft.ownHour(b) == wanted) {
                    return more;
                }
            }
            return NONE;
        }

        int firstOpening(Shop shop, int b, int hour, int v) {
            draft.copyFrom(shop);
            int room = shop.fact(b, Shop.ROOM);
            for (int opened = 0; opened < HOURS; opened++) {
                draft.setFact(b, Shop.OPENED, opened);
                if (draft.oclock(room, hour) == v) {
                    return opened;
                }
            }
            return NONE;
        }

        void fewestYawns(Shop shop, int b, int what) {
            draft.copyFrom(shop);
            least.seekBelow(NO_LIMIT);
            for (int v = Shop.least(what); v <= Shop.most(what); v++) {
                draft.setFact(b, what, v);
                least.offer(v, draft.yawnsOfAll());
            }
        }

        int startsAsSeen(Shop shop, Sightings seen) {
            draft.copyFrom(shop);
            int bits = 0;
            for (int hour = 0; hour < HOURS; hour++) {
                draft.setStart(hour);
                if (seen.agreeWith(draft)) {
                    bits |= 1 << hour;
                }
            }
            return bits;
        }

        int factsAsSeen(Shop shop, Sightings seen, int b, int what) {
            draft.copyFrom(shop);
            int bits = 0;
            for (int v = Shop.least(what); v <= Shop.most(what); v++) {
                draft.setFact(b, what, v);
                if (seen.agreeWith(draft)) {
                    bits |= 1 << v;
                }
            }
            return bits;
        }

        void bestLook(Shop shop, int starts) {
            draft.copyFrom(shop);
            least.seekBelow(Integer.bitCount(starts));
            for (int room = 0; room < ROOMS; room++) {
                // One is left at the worst wherever one looks, so below that nothing is sought.
                for (int hour = 0; hour < HOURS && least.mayBecomeLess(1); hour++) {
                    least.offer(ROOM_TIMES * room + hour, mostLeft(room, hour, starts));
                }
            }
        }

        private int mostLeft(int room, int hour, int starts) {
            int b = draft.boxAt(room, hour);
            if (b == NONE) {
                return Integer.bitCount(starts);
            }
            int most = 0;
            for (int oclock = 0; oclock < HOURS; oclock++) {
                startsLeft[oclock] = 0;
            }
            for (int start = 0; start < HOURS; start++) {
                if (((starts >> start) & 1) == 1) {
                    draft.setStart(start);
                    int oclock = draft.oclockBy(b, hour);
                    if (isHour(oclock)) {
                        startsLeft[oclock]++;
                        most = Math.max(most, startsLeft[oclock]);
                    }
                }
            }
            return most;
        }

        int drifted(Shop shop, int firstSeed, int n, int what) {
            int boxes = shop.size();
            if (boxes <= 0) {
                return STATE;
            }
            draft.copyFrom(shop);
            int seed = firstSeed;
            int sum = 0;
            for (int i = 0; i < n && i < MOST_DRIFT; i++) {
                seed = seed * SEED_TIMES + SEED_MORE;
                int got = (seed >> GOT_SHIFT) & GOT_MASK;
                draft.exchange(got % boxes, got / SECOND_PLACE_BY % boxes);
                draft.setStart(got / START_BY % HOURS);
                sum += draft.wrongOfAll();
            }
            return what == 0 ? sum : draft.yawnsOfAll();
        }
    }

    /** What comes of WORK that is an hour more by so many out of ten, as a fraction. */
    private static final class Odds {
        private static final int MOST_EUCLID = 100;

        /** By how many hours more all WORK up to a PLACE is: how many of 10 by the PLACES. */
        private final long[] ways = new long[Shop.MOST_BOXES + 1];
        private long upper = 0;
        private long lower = 1;

        long told(int what) {
            return what == 0 ? upper : lower;
        }

        void ofWantedHour(Shop shop, int b, int tenths) {
            beginAnew();
            int place = shop.placeOf(b);
            for (int i = 0; i <= place; i++) {
                passBox(tenths);
            }
            int done = shop.doneIn(place);
            int wanted = shop.fact(b, Shop.WANTED);
            for (int more = 0; more < ways.length; more++) {
                if ((done + more) % HOURS == wanted) {
                    upper += ways[more];
                }
            }
            reduce();
        }

        void ofMeanWrong(Shop shop, int tenths) {
            beginAnew();
            for (int i = 0; i < shop.size(); i++) {
                passBox(tenths);
                int done = shop.doneIn(i);
                for (int more = 0; more < ways.length; more++) {
                    upper += ways[more] * shop.wrongOf(shop.boxIn(i), done + more);
                }
            }
            reduce();
        }

        private void beginAnew() {
            for (int more = 1; more < ways.length; more++) {
                ways[more] = 0;
            }
            ways[0] = 1;
            upper = 0;
            lower = 1;
        }

        /** One BOX more; what was summed so far is of ten times as many. */
        private void passBox(int tenths) {
            for (int more = ways.length - 1; more > 0; more--) {
                ways[more] = ways[more] * (TENTHS - tenths) + ways[more - 1] * tenths;
            }
            ways[0] *= TENTHS - tenths;
            upper *= TENTHS;
            lower *= TENTHS;
        }

        private void reduce() {
            long a = lower;
            long b = upper;
            for (int i = 0; i < MOST_EUCLID && b != 0; i++) {
                long rest = a % b;
                a = b;
                b = rest;
            }
            if (a > 0) {
                upper /= a;
                lower /= a;
            }
        }
    }

    /** Rows of CELLS as the machine has them; each FAULT is found ahead of the machine. */
    private static final class Sheets {
        static final int MOST_CELLS = 40;
        static final int NULL = 1, INDEX = 2, CAST = 3, SIZE = 4;
        private static final int SHEETS = 4, BYTES = 0, SHORTS = 1, INTS = 2;

        private final int[] cells = new int[SHEETS * MOST_CELLS];
        private final int[] lanes = new int[SHEETS];
        /** NONE: a SHEET is nothing. */
        private final int[] sizes = {NONE, NONE, NONE, NONE};

        static boolean has(int k) {
            return within(k, 0, SHEETS - 1);
        }

        static boolean isLane(int lane) {
            return within(lane, BYTES, INTS);
        }

        int sizeOf(int k) {
            return has(k) ? sizes[k] : NONE;
        }

        int laneOf(int k) {
            return has(k) ? lanes[k] : BYTES;
        }

        void renew(int k, int lane, int n) {
            if (has(k) && within(n, 0, MOST_CELLS)) {
                for (int i = 0; i < n; i++) {
                    cells[k * MOST_CELLS + i] = 0;
                }
                lanes[k] = lane;
                sizes[k] = n;
            }
        }

        private boolean hasCell(int k, int i) {
            return has(k) && i >= 0 && i < sizes[k];
        }

        /** What the machine would find at a CELL of a SHEET taken as of a lane; 0: nothing. */
        int faultAt(int k, int lane, int i) {
            if (sizeOf(k) == NONE) {
                return NULL;
            }
            if (laneOf(k) != lane) {
                return CAST;
            }
            return hasCell(k, i) ? 0 : INDEX;
        }

        int faultOfThree(int k, int lane, int i) {
            int found = 0;
            for (int j = 0; j < CELLS_OF_ONE && found == 0; j++) {
                found = faultAt(k, lane, i + j);
            }
            return found;
        }

        int cellAt(int k, int i) {
            return hasCell(k, i) ? cells[k * MOST_CELLS + i] : 0;
        }

        void put(int k, int i, int v) {
            if (hasCell(k, i)) {
                cells[k * MOST_CELLS + i] = narrowed(lanes[k], v);
            }
        }

        private static int narrowed(int lane, int v) {
            if (lane == BYTES) {
                return (byte) v;
            }
            return lane == SHORTS ? (short) v : v;
        }
    }
}
