import java.util.Arrays;

/** Damps routes that flap: see README.md for its use, and the document for what each call promises. */
public final class FlapDamper {
    public static final int UNKNOWN = -1, OUTSIDE = -2, STATE = -3, FULL = -4, NO = -5, NONE = -6, FAULT = -7;

    private static final int PEERS = 4;
    private static final int PREFIXES = 8;
    private static final int ROUTES = PEERS * PREFIXES;
    private static final int LAST_PATH = 9;
    private static final int LAST_CAUSE = 99;

    private static final int HALF = 0;
    private static final int SLOT = 1;
    private static final int GONE = 2;
    private static final int SWAP = 3;
    private static final int OVER = 4;
    private static final int BACK = 5;
    private static final int TOP = 6;
    private static final int BOUNDS = 7;
    private static final int[] LEAST = {4, 1, 0, 0, 100, 50, 100};
    private static final int[] MOST = {200, 50, 2000, 2000, 9999, 9999, 20000};
    private static final int[] AT_FIRST = {60, 10, 1000, 500, 2000, 750, 8000};

    private static final int[] ROW = {65536, 60097, 55109, 50535, 46341, 42495, 38968, 35734};
    private static final int ROW_UNIT = 65536;

    private static final int TEXT_SIGNS = 12;
    private static final int MOST_FIGURES = 5;
    private static final int RECORDS = 6;
    private static final int CAUSES = 4;
    private static final int SLOTS_AHEAD = 8;
    private static final int LINES = 6;
    // The longest line is A00:0+2000=20000!, of 17 signs.
    private static final int LINE_SIGNS = 20;
    private static final int IMAGES = 2;

    private static final int MOST_PASSED = 200;
    private static final int MOST_LATER = 2000;
    private static final int FAR = 5000;

    private static final int WEIGHS_NOTHING = 0;
    private static final int IS_ECHO = 1;
    private static final int IS_LOST = 2;
    private static final int IS_COUNTED = 3;
    private static final int IS_HELD_BY_THIS = 4;

    private final Text text = new Text();
    private final State now = new State();
    private final State firstImage = new State();
    private final State secondImage = new State();
    private final boolean[] kept = new boolean[IMAGES];

    public FlapDamper() {
    }

    // ---- 1 bounds

    public int say(int sign) {
        if (!isWithin(sign, 33, 126)) {
            return OUTSIDE;
        }
        return text.append(sign) ? text.length : FULL;
    }

    public int wipe() {
        return text.clear();
    }

    public int fault() {
        return text.findFault();
    }

    public int set() {
        int which = text.toldBound();
        if (which == NONE) {
            return FAULT;
        }
        int number = text.toldNumber();
        if (!isWithin(number, LEAST[which], MOST[which])) {
            return OUTSIDE;
        }
        text.clear();
        return now.bounds.replace(which, number);
    }

    public int bound(int which) {
        return isWithin(which, 0, BOUNDS - 1) ? now.bounds.values[which] : OUTSIDE;
    }

    // ---- 2 events

    public int announce(int peer, int prefix, int path, int cause) {
        if (!isRoute(peer, prefix)) {
            return UNKNOWN;
        }
        if (!isWithin(path, 0, LAST_PATH) || !isWithin(cause, 0, LAST_CAUSE)) {
            return OUTSIDE;
        }
        int route = routeOf(peer, prefix);
        return now.paths[route] == path ? NO : now.happen(route, path, cause);
    }

    public int withdraw(int peer, int prefix, int cause) {
        if (!isRoute(peer, prefix)) {
            return UNKNOWN;
        }
        if (!isWithin(cause, 0, LAST_CAUSE)) {
            return OUTSIDE;
        }
        int route = routeOf(peer, prefix);
        return now.paths[route] == NONE ? NO : now.happen(route, NONE, cause);
    }

    public int pass(int ticks) {
        if (!isWithin(ticks, 1, MOST_PASSED)) {
            return OUTSIDE;
        }
        for (int i = 0; i < ticks; i++) {
            now.nextTick();
        }
        return now.records.heldOnes();
    }

    // ---- 3 what is told

    public int route(int peer, int prefix, int what) {
        if (!isRoute(peer, prefix)) {
            return UNKNOWN;
        }
        if (!isWithin(what, 0, 6)) {
            return OUTSIDE;
        }
        int route = routeOf(peer, prefix);
        return what == 0 ? now.paths[route] : now.tellRecord(now.records.find(route), what);
    }

    public int later(int peer, int prefix, int ticks) {
        if (!isRoute(peer, prefix)) {
            return UNKNOWN;
        }
        if (!isWithin(ticks, 0, MOST_LATER)) {
            return OUTSIDE;
        }
        return now.penaltyAt(now.records.find(routeOf(peer, prefix)), now.tick + ticks);
    }

    public int when(int peer, int prefix) {
        if (!isRoute(peer, prefix)) {
            return UNKNOWN;
        }
        return now.letGoAt(now.records.find(routeOf(peer, prefix)));
    }

    public int longest() {
        Bounds bounds = now.bounds;
        for (int ticks = 0; ticks <= FAR; ticks++) {
            if (bounds.lessened(bounds.values[TOP], ticks) < bounds.values[BACK]) {
                return ticks;
            }
        }
        return NONE;
    }

    public int best(int prefix, int what) {
        if (!isWithin(prefix, 0, PREFIXES - 1)) {
            return UNKNOWN;
        }
        if (!isWithin(what, 0, 2)) {
            return OUTSIDE;
        }
        return now.tellBest(prefix, what);
    }

    public int record(int i) {
        return isWithin(i, 0, now.records.size - 1) ? now.records.rows[i].route : NONE;
    }

    public int line(int i, int k) {
        return now.lines.tell(i, k);
    }

    public int count(int what) {
        if (!isWithin(what, 0, 9)) {
            return OUTSIDE;
        }
        return what == 9 ? keptImages() : now.tellCount(what);
    }

    // ---- 4 images

    public int image(int k) {
        if (!isWithin(k, 0, IMAGES - 1)) {
            return OUTSIDE;
        }
        imageOf(k).copyFrom(now);
        kept[k] = true;
        return 1;
    }

    public int restore(int k) {
        if (!isWithin(k, 0, IMAGES - 1)) {
            return OUTSIDE;
        }
        if (!kept[k]) {
            return STATE;
        }
        now.copyFrom(imageOf(k));
        return 1;
    }

    private State imageOf(int k) {
        return k == 0 ? firstImage : secondImage;
    }

    private int keptImages() {
        return (kept[0] ? 1 : 0) + (kept[1] ? 2 : 0);
    }

    private static boolean isWithin(int number, int least, int most) {
        return number >= least && number <= most;
    }

    private static boolean isRoute(int peer, int prefix) {
        return isWithin(peer, 0, PEERS - 1) && isWithin(prefix, 0, PREFIXES - 1);
    }

    private static int routeOf(int peer, int prefix) {
        return peer * PREFIXES + prefix;
    }

    /** THE TEXT, and how it is read. */
    private static final class Text {
        final int[] signs = new int[TEXT_SIGNS];
        int length;

        boolean append(int sign) {
            if (length >= TEXT_SIGNS) {
                return false;
            }
            signs[length] = sign;
            length++;
            return true;
        }

        int clear() {
            int before = length;
            length = 0;
            return before;
        }

        int findFault() {
            if (toldBound() != NONE) {
                return NONE;
            }
            int furthest = 0;
            for (int which = 0; which < BOUNDS; which++) {
                furthest = Math.max(furthest, fittingSigns(nameOf(which)));
            }
            return furthest;
        }

        int toldBound() {
            for (int which = 0; which < BOUNDS; which++) {
                if (tells(nameOf(which))) {
                    return which;
                }
            }
            return NONE;
        }

        /** The number of a text that tells a bound: no name has a figure in it. */
        int toldNumber() {
            int number = 0;
            for (int i = 0; i < length; i++) {
                if (isFigure(signs[i])) {
                    number = number * 10 + signs[i] - '0';
                }
            }
            return number;
        }

        private boolean tells(String name) {
            return length > name.length() + 1 && fittingSigns(name) == length;
        }

        private int fittingSigns(String name) {
            int fitting = 0;
            while (fitting < length && fits(name, fitting)) {
                fitting++;
            }
            return fitting;
        }

        private boolean fits(String name, int place) {
            if (place < name.length()) {
                return signs[place] == name.charAt(place);
            }
            if (place == name.length()) {
                return signs[place] == '=';
            }
            return place <= name.length() + MOST_FIGURES && isFigure(signs[place]);
        }

        private static boolean isFigure(int sign) {
            return sign >= '0' && sign <= '9';
        }

        private static String nameOf(int which) {
            switch (which) {
                case HALF: return "half";
                case SLOT: return "slot";
                case GONE: return "gone";
                case SWAP: return "swap";
                case OVER: return "over";
                case BACK: return "back";
                default: return "top";
            }
        }
    }

    /** The BOUNDS, and how a number is LESSENED by them. */
    private static final class Bounds {
        final int[] values = AT_FIRST.clone();

        int replace(int which, int number) {
            int before = values[which];
            values[which] = number;
            return before;
        }

        int lessened(int number, int ticks) {
            int half = values[HALF];
            if (half < 1 || ticks < 0) {
                return number;
            }
            int halvings = ticks / half;
            // A shift takes its distance by 32, so one too far would bring the number back.
            if (halvings > 30) {
                return 0;
            }
            long halved = number >> halvings;
            // What is left over is less than half, so the place is 0 to 7.
            int place = ROW.length * (ticks % half) / half;
            return (int) (halved * ROW[place] / ROW_UNIT);
        }

        void copyFrom(Bounds other) {
            System.arraycopy(other.values, 0, values, 0, BOUNDS);
        }
    }

    /** A RECORD of a ROUTE. */
    private static final class RouteRecord {
        int route;
        int figure;
        int told;
        boolean held;
        int due;
        // From the one that was counted longest ago to the last one.
        final int[] causes = new int[CAUSES];
        int causeCount;

        void begin(int newRoute, int tick) {
            route = newRoute;
            figure = 0;
            told = tick;
            held = false;
            due = 0;
            causeCount = 0;
        }

        boolean hasCause(int cause) {
            for (int i = 0; i < causeCount; i++) {
                if (causes[i] == cause) {
                    return true;
                }
            }
            return false;
        }

        void addCause(int cause) {
            if (causeCount < CAUSES) {
                causes[causeCount] = cause;
                causeCount++;
                return;
            }
            System.arraycopy(causes, 1, causes, 0, CAUSES - 1);
            causes[CAUSES - 1] = cause;
        }

        void copyFrom(RouteRecord other) {
            route = other.route;
            figure = other.figure;
            told = other.told;
            held = other.held;
            due = other.due;
            System.arraycopy(other.causes, 0, causes, 0, CAUSES);
            causeCount = other.causeCount;
        }
    }

    /** The RECORDS, in the order in which they were made; the rows behind them wait to be used again. */
    private static final class RecordList {
        final RouteRecord[] rows = new RouteRecord[RECORDS];
        int size;
        int dropped;

        RecordList() {
            for (int i = 0; i < RECORDS; i++) {
                rows[i] = new RouteRecord();
            }
        }

        /** The RECORD of a ROUTE, or null. */
        RouteRecord find(int route) {
            for (int i = 0; i < size; i++) {
                if (rows[i].route == route) {
                    return rows[i];
                }
            }
            return null;
        }

        /** A new RECORD, or null if all there are are HELD. */
        RouteRecord make(int route, int tick) {
            if (size >= RECORDS && !dropFirstFree()) {
                return null;
            }
            RouteRecord made = rows[size];
            size++;
            made.begin(route, tick);
            return made;
        }

        private boolean dropFirstFree() {
            for (int i = 0; i < size; i++) {
                if (!rows[i].held) {
                    drop(i);
                    return true;
                }
            }
            return false;
        }

        void drop(int place) {
            if (!isWithin(place, 0, size - 1)) {
                return;
            }
            RouteRecord row = rows[place];
            for (int i = place; i < size - 1; i++) {
                rows[i] = rows[i + 1];
            }
            size--;
            rows[size] = row;
            dropped++;
        }

        int heldOnes() {
            int held = 0;
            for (int i = 0; i < size; i++) {
                if (rows[i].held) {
                    held++;
                }
            }
            return held;
        }

        void copyFrom(RecordList other) {
            for (int i = 0; i < RECORDS; i++) {
                rows[i].copyFrom(other.rows[i]);
            }
            size = other.size;
            dropped = other.dropped;
        }
    }

    /** The last LINES, in a ring. */
    private static final class Lines {
        final int[] signs = new int[LINES * LINE_SIGNS];
        final int[] lengths = new int[LINES];
        int newest;
        int written;

        void begin(int kind, int route) {
            newest = (newest + 1) % LINES;
            lengths[newest] = 0;
            written++;
            put(kind);
            putNumber(route / PREFIXES);
            putNumber(route % PREFIXES);
        }

        void put(int sign) {
            int length = lengths[newest];
            if (length < LINE_SIGNS) {
                signs[newest * LINE_SIGNS + length] = sign;
                lengths[newest] = length + 1;
            }
        }

        void putNumber(int number) {
            int unit = 1;
            for (int i = 0; i < 9 && number / unit >= 10; i++) {
                unit *= 10;
            }
            for (; unit > 0; unit /= 10) {
                put('0' + number / unit % 10);
            }
        }

        int tell(int i, int k) {
            if (!isWithin(i, 0, Math.min(written, LINES) - 1)) {
                return NONE;
            }
            int place = (newest - i + LINES) % LINES;
            if (k == -1) {
                return lengths[place];
            }
            return isWithin(k, 0, lengths[place] - 1) ? signs[place * LINE_SIGNS + k] : NONE;
        }

        void copyFrom(Lines other) {
            System.arraycopy(other.signs, 0, signs, 0, signs.length);
            System.arraycopy(other.lengths, 0, lengths, 0, LINES);
            newest = other.newest;
            written = other.written;
        }
    }

    /** All that an IMAGE keeps. */
    private static final class State {
        final Bounds bounds = new Bounds();
        final RecordList records = new RecordList();
        final Lines lines = new Lines();
        final int[] paths = new int[ROUTES];
        // Of each PREFIX its BEST, as PEERS times the PATH and the PEER (the least is the best), or NONE.
        final int[] bests = new int[PREFIXES];
        final int[] changes = new int[PREFIXES];
        int tick;
        int events;
        int echoes;
        int lost;
        int letGo;

        State() {
            Arrays.fill(paths, NONE);
            Arrays.fill(bests, NONE);
        }

        /** An EVENT: the ROUTE gets the PATH, or loses its own one (NONE). How it ended. */
        int happen(int route, int path, int cause) {
            int weight = weigh(paths[route], path);
            paths[route] = path;
            events++;
            int end = judge(route, weight, cause);
            writeEvent(route, weight, end);
            refreshBest(route % PREFIXES);
            return end;
        }

        private int weigh(int before, int after) {
            if (after == NONE) {
                return bounds.values[GONE];
            }
            return before == NONE ? 0 : bounds.values[SWAP];
        }

        private int judge(int route, int weight, int cause) {
            if (weight == 0) {
                return WEIGHS_NOTHING;
            }
            RouteRecord own = records.find(route);
            if (own != null && cause != 0 && own.hasCause(cause)) {
                echoes++;
                return IS_ECHO;
            }
            if (own == null) {
                own = records.make(route, tick);
            }
            if (own == null) {
                lost++;
                return IS_LOST;
            }
            return addTo(own, weight, cause);
        }

        private int addTo(RouteRecord own, int weight, int cause) {
            own.figure = Math.min(penaltyAt(own, tick) + weight, bounds.values[TOP]);
            own.told = tick;
            if (cause != 0) {
                own.addCause(cause);
            }
            if (own.held || own.figure <= bounds.values[OVER]) {
                return IS_COUNTED;
            }
            own.held = true;
            own.due = dueAfter(own, tick);
            return IS_HELD_BY_THIS;
        }

        private void writeEvent(int route, int weight, int end) {
            int path = paths[route];
            lines.begin(path == NONE ? 'W' : 'A', route);
            if (path != NONE) {
                lines.put(':');
                lines.putNumber(path);
            }
            if (end == IS_ECHO) {
                lines.put('~');
            }
            if (end == IS_LOST) {
                lines.put('?');
            }
            RouteRecord own = records.find(route);
            if (own != null && (end == IS_COUNTED || end == IS_HELD_BY_THIS)) {
                lines.put('+');
                lines.putNumber(weight);
                lines.put('=');
                lines.putNumber(own.figure);
            }
            if (end == IS_HELD_BY_THIS) {
                lines.put('!');
            }
        }

        /** The PENALTY of the ROUTE of a RECORD, or of one that has none (null). */
        int penaltyAt(RouteRecord own, int atTick) {
            return own == null ? 0 : bounds.lessened(own.figure, atTick - own.told);
        }

        private boolean isBelowBack(RouteRecord own, int atTick) {
            return bounds.lessened(own.figure, atTick - own.told) < bounds.values[BACK];
        }

        /** When a RECORD is DUE, if that is laid at a TICK. */
        private int dueAfter(RouteRecord own, int atTick) {
            int slot = Math.max(bounds.values[SLOT], 1);
            int looked = atTick - atTick % slot;
            for (int i = 0; i < SLOTS_AHEAD; i++) {
                looked += slot;
                if (isBelowBack(own, looked)) {
                    return looked;
                }
            }
            return looked;
        }

        private boolean isLookedAt(int atTick) {
            return atTick % Math.max(bounds.values[SLOT], 1) == 0;
        }

        void nextTick() {
            tick++;
            if (!isLookedAt(tick)) {
                return;
            }
            int before = letGo;
            for (int i = 0; i < records.size; i++) {
                lookAt(records.rows[i]);
            }
            dropSmallOnes();
            // Only a ROUTE that was let go can make a BEST another one when a TICK passes.
            if (letGo != before) {
                for (int prefix = 0; prefix < PREFIXES; prefix++) {
                    refreshBest(prefix);
                }
            }
        }

        private void lookAt(RouteRecord own) {
            if (!own.held || own.due > tick) {
                return;
            }
            if (!isBelowBack(own, tick)) {
                own.due = dueAfter(own, tick);
                return;
            }
            own.held = false;
            letGo++;
            lines.begin('R', own.route);
            lines.put('@');
            lines.putNumber(tick);
        }

        private void dropSmallOnes() {
            // From the last one on, so that none moves to a place that was passed already.
            for (int i = records.size - 1; i >= 0; i--) {
                RouteRecord own = records.rows[i];
                if (!own.held && 2 * penaltyAt(own, tick) < bounds.values[BACK]) {
                    records.drop(i);
                }
            }
        }

        /** The TICK at which the ROUTE of a RECORD (or null) will not be HELD any more; NONE. */
        int letGoAt(RouteRecord own) {
            if (own == null || !own.held) {
                return NONE;
            }
            int due = own.due;
            for (int ahead = 1; ahead <= FAR; ahead++) {
                int atTick = tick + ahead;
                if (due <= atTick && isLookedAt(atTick)) {
                    if (isBelowBack(own, atTick)) {
                        return atTick;
                    }
                    due = dueAfter(own, atTick);
                }
            }
            return NONE;
        }

        private void refreshBest(int prefix) {
            int best = findBest(prefix);
            if (best != bests[prefix]) {
                bests[prefix] = best;
                changes[prefix]++;
            }
        }

        private int findBest(int prefix) {
            int found = NONE;
            for (int peer = 0; peer < PEERS; peer++) {
                int route = routeOf(peer, prefix);
                int path = paths[route];
                int rank = path * PEERS + peer;
                if (path != NONE && (found == NONE || rank < found) && !isHeld(records.find(route))) {
                    found = rank;
                }
            }
            return found;
        }

        private static boolean isHeld(RouteRecord own) {
            return own != null && own.held;
        }

        int tellRecord(RouteRecord own, int what) {
            switch (what) {
                case 1: return penaltyAt(own, tick);
                case 2: return isHeld(own) ? 1 : 0;
                case 3: return isHeld(own) ? own.due : NONE;
                case 4: return own == null ? NONE : own.figure;
                case 5: return own == null ? NONE : own.told;
                default: return own == null ? 0 : own.causeCount;
            }
        }

        int tellBest(int prefix, int what) {
            if (what == 2) {
                return changes[prefix];
            }
            if (bests[prefix] == NONE) {
                return NONE;
            }
            return what == 0 ? bests[prefix] % PEERS : bests[prefix] / PEERS;
        }

        int tellCount(int what) {
            switch (what) {
                case 0: return tick;
                case 1: return records.size;
                case 2: return records.heldOnes();
                case 3: return events;
                case 4: return echoes;
                case 5: return lost;
                case 6: return records.dropped;
                case 7: return letGo;
                default: return lines.written;
            }
        }

        void copyFrom(State other) {
            bounds.copyFrom(other.bounds);
            records.copyFrom(other.records);
            lines.copyFrom(other.lines);
            System.arraycopy(other.paths, 0, paths, 0, ROUTES);
            System.arraycopy(other.bests, 0, bests, 0, PREFIXES);
            System.arraycopy(other.changes, 0, changes, 0, PREFIXES);
            tick = other.tick;
            events = other.events;
            echoes = other.echoes;
            lost = other.lost;
            letGo = other.letGo;
        }
    }
}
