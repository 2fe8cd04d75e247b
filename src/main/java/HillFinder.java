import java.util.NoSuchElementException;

/** Finds a flier's place over a map of heights from readings of a height meter that errs. */
public final class HillFinder {
    public static final int NONE = -1;

    private static final int LOST = -2;
    private static final int NO_CELL = -2;
    private static final int UNTOLD = -1;
    private static final int UNTOLD_BYTE = 255;
    private static final int GREATEST_HEIGHT = 250;
    private static final int LEAST_SIDE = 2;
    private static final int GREATEST_SIDE = 12;
    private static final int MOST_CELLS = 144;
    private static final int GREATEST_ERR = 20;
    private static final int GREATEST_STEP = 5;
    private static final int MOST_MOVES = 12;
    private static final int MOST_READINGS = 40;
    private static final int MOST_ROUTES = 8;
    private static final int MOST_ROUTE_MOVES = 8;
    private static final int MOST_TAPE = 160;
    private static final int FEED_BYTES = 20;
    private static final int PAIR_FACTOR = 200;

    private static final int CHECK_FITS = 0;
    private static final int CHECK_AGAINST = 1;
    private static final int CHECK_MENDED = 2;

    private final Tape tape;
    private final Hills hills;
    private final Gauge gauge;
    private final Checks checks;
    private final Row row;
    private final Flight flight;
    private final PathSearch search;
    private final TwinSearch pairs;

    public HillFinder() {
        tape = new Tape();
        hills = new Hills();
        gauge = new Gauge();
        row = new Row();
        checks = new Checks(hills, gauge);
        flight = new Flight(hills, gauge, row);
        search = new PathSearch(hills, gauge, row);
        pairs = new TwinSearch(hills, gauge, tape);
        flight.start(NONE);
    }

    public int feed(int a, int b, int c, int d, int e) {
        if (tape.size() + FEED_BYTES > MOST_TAPE) {
            return NONE;
        }
        tape.append(a);
        tape.append(b);
        tape.append(c);
        tape.append(d);
        tape.append(e);
        return tape.size();
    }

    public boolean end(int n) {
        return tape.cut(n);
    }

    public boolean map(int w, int h) {
        boolean told = hills.tell(w, h, tape);
        // The tape is used up by a map that is refused, too.
        tape.cut(0);
        if (told) {
            checks.forget();
            flight.start(NONE);
            flight.forgetLosses();
        }
        return told;
    }

    public boolean meter(int err, int w0, int w1) {
        return gauge.set(err, w0, w1);
    }

    public boolean begin(int c) {
        if (c != NONE && !hills.has(c)) {
            return false;
        }
        flight.start(c);
        return true;
    }

    public int move(int dx, int dy) {
        if (!isMove(dx, dy) || row.moves() >= MOST_MOVES) {
            return NONE;
        }
        return flight.fly(dx, dy) ? flight.holders() : LOST;
    }

    public int read(int v) {
        if (!isReading(v) || row.readings() >= MOST_READINGS) {
            return NONE;
        }
        return flight.sight(v) ? flight.holders() : LOST;
    }

    public long share(int c, int what) throws NoSuchElementException {
        if (!hills.has(c) || what < 0 || what > 1) {
            throw new NoSuchElementException();
        }
        long part = flight.shareOf(c);
        long all = flight.total();
        long divisor = commonDivisor(part, all);
        return what == 0 ? part / divisor : all / divisor;
    }

    public int likely() {
        return flight.likeliest();
    }

    public int span(int what) {
        if (what == 4) {
            return flight.holders();
        }
        return flight.edge(what);
    }

    public int best() {
        return search.findBest();
    }

    public int path(int i) {
        return search.cellOfPath(i);
    }

    public int twins() {
        int found = pairs.twinsOfTape();
        tape.cut(0);
        return found;
    }

    public int twin() {
        return pairs.firstPair();
    }

    public int route(int n) {
        int found = pairs.tellingRoute(n);
        tape.cut(0);
        return found;
    }

    public int check(int c, int v) {
        if (!hills.has(c) || !isReading(v)) {
            return NONE;
        }
        return checks.hear(c, v);
    }

    public int height(int c) {
        return hills.has(c) ? hills.heightOf(c) : NO_CELL;
    }

    public int count(int what) {
        switch (what) {
            case 0: return hills.width();
            case 1: return hills.depth();
            case 2: return gauge.err();
            case 3: return row.moves();
            case 4: return row.readings();
            case 5: return flight.losses();
            case 6: return checks.mendings();
            case 7: return tape.size();
            default: return NONE;
        }
    }

    private static boolean isMove(int dx, int dy) {
        return dx >= -GREATEST_STEP && dx <= GREATEST_STEP && dy >= -GREATEST_STEP && dy <= GREATEST_STEP;
    }

    private static boolean isReading(int v) {
        return v >= 0 && v <= GREATEST_HEIGHT;
    }

    /** At least 1, so that one may divide by it. */
    private static long commonDivisor(long a, long b) {
        long high = a;
        long low = b;
        // Euclid's way needs fewer than 100 steps for any two longs.
        for (int step = 0; step < 200 && low != 0; step++) {
            long rest = high % low;
            high = low;
            low = rest;
        }
        return high < 1 ? 1 : high;
    }

    /** The bytes that wait for map, twins or route. */
    private static final class Tape {
        private final byte[] bytes = new byte[MOST_TAPE];
        private int size = 0;

        int size() {
            return size;
        }

        void append(int number) {
            for (int shift = 24; shift >= 0 && size < MOST_TAPE; shift -= 8) {
                bytes[size] = (byte) (number >> shift);
                size++;
            }
        }

        boolean cut(int n) {
            if (n < 0 || n > size) {
                return false;
            }
            size = n;
            return true;
        }

        int signedAt(int i) {
            return i >= 0 && i < size ? bytes[i] : 0;
        }

        int unsignedAt(int i) {
            return signedAt(i) & 255;
        }
    }

    /** The map: its sides and the heights of its cells. */
    private static final class Hills {
        private final int[] heights = new int[MOST_CELLS];
        private int width = LEAST_SIDE;
        private int depth = LEAST_SIDE;

        Hills() {
            for (int c = 0; c < MOST_CELLS; c++) {
                heights[c] = UNTOLD;
            }
        }

        int width() {
            return width;
        }

        int depth() {
            return depth;
        }

        int cells() {
            return width * depth;
        }

        boolean has(int c) {
            return c >= 0 && c < cells();
        }

        /** The number of the cell at x, y; NONE beyond the map. */
        int cellAt(int x, int y) {
            return x >= 0 && x < width && y >= 0 && y < depth ? width * y + x : NONE;
        }

        int heightOf(int c) {
            return has(c) ? heights[c] : UNTOLD;
        }

        void setHeight(int c, int v) {
            if (has(c)) {
                heights[c] = v;
            }
        }

        boolean tell(int w, int h, Tape told) {
            if (!isSide(w) || !isSide(h) || told.size() != w * h || !allHeights(told)) {
                return false;
            }
            width = w;
            depth = h;
            for (int c = 0; c < w * h; c++) {
                int value = told.unsignedAt(c);
                heights[c] = value == UNTOLD_BYTE ? UNTOLD : value;
            }
            return true;
        }

        private static boolean isSide(int side) {
            return side >= LEAST_SIDE && side <= GREATEST_SIDE;
        }

        private static boolean allHeights(Tape told) {
            for (int i = 0; i < told.size(); i++) {
                int value = told.unsignedAt(i);
                if (!isReading(value) && value != UNTOLD_BYTE) {
                    return false;
                }
            }
            return true;
        }
    }

    /** How far the height meter errs and how the course drifts. */
    private static final class Gauge {
        private int err = 0;
        private int straight = 1;
        private int aside = 0;

        int err() {
            return err;
        }

        boolean set(int newErr, int w0, int w1) {
            if (newErr < 0 || newErr > GREATEST_ERR || w0 < 1 || w0 > 3 || w1 < 0 || w1 > 1) {
                return false;
            }
            err = newErr;
            straight = w0;
            aside = w1;
            return true;
        }

        int weight(int a, int b) {
            return (a == 0 ? straight : aside) * (b == 0 ? straight : aside);
        }

        boolean fits(int v, int height) {
            return height == UNTOLD || Math.abs(height - v) <= err;
        }

        /** Whether two heights may give the same reading. */
        boolean alike(int one, int other) {
            return one == UNTOLD || other == UNTOLD || Math.abs(one - other) <= 2 * err;
        }
    }

    /** What checks have said against the heights of the map. */
    private static final class Checks {
        private final Hills hills;
        private final Gauge gauge;
        /** How many spoke against the height the same way one behind another: above 0 too high, below 0 too low. */
        private final int[] streaks = new int[MOST_CELLS];
        private final int[] firsts = new int[MOST_CELLS];
        private final int[] seconds = new int[MOST_CELLS];
        private int mendings = 0;

        Checks(Hills hills, Gauge gauge) {
            this.hills = hills;
            this.gauge = gauge;
        }

        int mendings() {
            return mendings;
        }

        void forget() {
            for (int c = 0; c < MOST_CELLS; c++) {
                streaks[c] = 0;
            }
            mendings = 0;
        }

        int hear(int c, int v) {
            if (c < 0 || c >= MOST_CELLS) {
                return NONE;
            }
            int told = hills.heightOf(c);
            if (told == UNTOLD) {
                return mend(c, v);
            }
            if (gauge.fits(v, told)) {
                streaks[c] = 0;
                return CHECK_FITS;
            }
            return hearAgainst(c, v, v > told ? 1 : -1);
        }

        private int hearAgainst(int c, int v, int way) {
            if (c < 0 || c >= MOST_CELLS) {
                return NONE;
            }
            int before = Math.max(0, streaks[c] * way);
            if (before >= 2) {
                return mend(c, middle(firsts[c], seconds[c], v));
            }
            if (before == 0) {
                firsts[c] = v;
            } else {
                seconds[c] = v;
            }
            streaks[c] = (before + 1) * way;
            return CHECK_AGAINST;
        }

        private int mend(int c, int v) {
            if (c < 0 || c >= MOST_CELLS) {
                return NONE;
            }
            hills.setHeight(c, v);
            streaks[c] = 0;
            mendings++;
            return CHECK_MENDED;
        }

        private static int middle(int a, int b, int c) {
            return Math.max(Math.min(a, b), Math.min(Math.max(a, b), c));
        }
    }

    /** The readings and moves since the flight began or one was lost. */
    private static final class Row {
        private final int[] dxs = new int[MOST_MOVES];
        private final int[] dys = new int[MOST_MOVES];
        private final int[] values = new int[MOST_READINGS];
        /** For each reading, how many moves were ahead of it. */
        private final int[] steps = new int[MOST_READINGS];
        private int moves = 0;
        private int readings = 0;
        private int start = NONE;

        int moves() {
            return moves;
        }

        int readings() {
            return readings;
        }

        /** The cell in which paths begin, NONE for any. */
        int start() {
            return start;
        }

        void restart(int c) {
            moves = 0;
            readings = 0;
            start = c;
        }

        void addMove(int dx, int dy) {
            if (moves < MOST_MOVES) {
                dxs[moves] = dx;
                dys[moves] = dy;
                moves++;
            }
        }

        void addReading(int v) {
            if (readings < MOST_READINGS) {
                values[readings] = v;
                steps[readings] = moves;
                readings++;
            }
        }

        int dx(int step) {
            return step >= 0 && step < moves ? dxs[step] : 0;
        }

        int dy(int step) {
            return step >= 0 && step < moves ? dys[step] : 0;
        }

        /** What a cell of that height adds to the fault of a path that is there behind so many moves. */
        int faultAt(int step, int height) {
            if (height == UNTOLD) {
                return 0;
            }
            int fault = 0;
            for (int i = 0; i < readings; i++) {
                if (steps[i] == step) {
                    fault += Math.abs(values[i] - height);
                }
            }
            return fault;
        }
    }

    /** The shares of the cells. They never go beyond a long: 144 times 25 to the 12th is the most. */
    private static final class Flight {
        private final Hills hills;
        private final Gauge gauge;
        private final Row row;
        private final long[] shares = new long[MOST_CELLS];
        private final long[] moved = new long[MOST_CELLS];
        private int losses = 0;

        Flight(Hills hills, Gauge gauge, Row row) {
            this.hills = hills;
            this.gauge = gauge;
            this.row = row;
        }

        int losses() {
            return losses;
        }

        void forgetLosses() {
            losses = 0;
        }

        void start(int only) {
            row.restart(only);
            for (int c = 0; c < MOST_CELLS; c++) {
                shares[c] = hills.has(c) && (only == NONE || c == only) ? 1 : 0;
            }
        }

        /** False: one is lost by it. */
        boolean fly(int dx, int dy) {
            clearMoved();
            for (int y = 0; y < hills.depth(); y++) {
                for (int x = 0; x < hills.width(); x++) {
                    long share = shareOf(hills.cellAt(x, y));
                    if (share > 0) {
                        spread(share, x + dx, y + dy);
                    }
                }
            }
            System.arraycopy(moved, 0, shares, 0, MOST_CELLS);
            if (holders() == 0) {
                beginAgain();
                return false;
            }
            row.addMove(dx, dy);
            return true;
        }

        private void clearMoved() {
            for (int c = 0; c < MOST_CELLS; c++) {
                moved[c] = 0;
            }
        }

        private void spread(long share, int x, int y) {
            for (int b = -1; b <= 1; b++) {
                for (int a = -1; a <= 1; a++) {
                    int target = hills.cellAt(x + a, y + b);
                    if (target >= 0 && target < MOST_CELLS) {
                        moved[target] += share * gauge.weight(a, b);
                    }
                }
            }
        }

        /** False: one is lost by it. */
        boolean sight(int v) {
            dropUnfit(v);
            if (holders() > 0) {
                row.addReading(v);
                return true;
            }
            beginAgain();
            dropUnfit(v);
            if (holders() == 0) {
                start(NONE);
            }
            row.addReading(v);
            return false;
        }

        private void dropUnfit(int v) {
            for (int c = 0; c < MOST_CELLS; c++) {
                if (!gauge.fits(v, hills.heightOf(c))) {
                    shares[c] = 0;
                }
            }
        }

        private void beginAgain() {
            losses++;
            start(NONE);
        }

        long shareOf(int c) {
            return c >= 0 && c < MOST_CELLS ? shares[c] : 0;
        }

        long total() {
            long all = 0;
            for (int c = 0; c < MOST_CELLS; c++) {
                all += shares[c];
            }
            return all;
        }

        int holders() {
            int found = 0;
            for (int c = 0; c < MOST_CELLS; c++) {
                if (shares[c] > 0) {
                    found++;
                }
            }
            return found;
        }

        int likeliest() {
            int found = 0;
            for (int c = 1; c < MOST_CELLS; c++) {
                if (shares[c] > shares[found]) {
                    found = c;
                }
            }
            return found;
        }

        /** 0 and 1: the least and greatest x with a share; 2 and 3: so for y; NONE for another which. */
        int edge(int which) {
            if (which < 0 || which > 3) {
                return NONE;
            }
            boolean greatest = which == 1 || which == 3;
            int found = NONE;
            for (int y = 0; y < hills.depth(); y++) {
                for (int x = 0; x < hills.width(); x++) {
                    if (shareOf(hills.cellAt(x, y)) > 0) {
                        int place = which < 2 ? x : y;
                        found = found == NONE || (greatest ? place > found : place < found) ? place : found;
                    }
                }
            }
            return found;
        }
    }

    /**
     * The best path, looked for from its end to its beginning: so the first of like paths comes of taking
     * the lesser cell at each place.
     */
    private static final class PathSearch {
        private final Hills hills;
        private final Gauge gauge;
        private final Row row;
        /** Fault of the best rest of a path from each cell on; NONE: there is no rest. */
        private final int[] faults = new int[MOST_CELLS];
        private final long[] ways = new long[MOST_CELLS];
        /** The same of the rests that begin one move later. */
        private final int[] laterFaults = new int[MOST_CELLS];
        private final long[] laterWays = new long[MOST_CELLS];
        private final int[] followers = new int[MOST_MOVES * MOST_CELLS];
        private final int[] path = new int[MOST_MOVES + 1];
        private int pathSize = 0;

        PathSearch(Hills hills, Gauge gauge, Row row) {
            this.hills = hills;
            this.gauge = gauge;
            this.row = row;
        }

        int cellOfPath(int i) {
            return i >= 0 && i < pathSize && i < path.length ? path[i] : NONE;
        }

        int findBest() {
            rateEnds();
            for (int step = row.moves() - 1; step >= 0; step--) {
                System.arraycopy(faults, 0, laterFaults, 0, MOST_CELLS);
                System.arraycopy(ways, 0, laterWays, 0, MOST_CELLS);
                stepBack(step);
            }
            int first = bestFirst();
            if (first < 0 || first >= MOST_CELLS) {
                return NONE;
            }
            keepPath(first);
            return faults[first];
        }

        private void rateEnds() {
            for (int c = 0; c < MOST_CELLS; c++) {
                faults[c] = hills.has(c) ? row.faultAt(row.moves(), hills.heightOf(c)) : NONE;
                ways[c] = 1;
            }
        }

        private void stepBack(int step) {
            for (int y = 0; y < hills.depth(); y++) {
                for (int x = 0; x < hills.width(); x++) {
                    rate(step, hills.cellAt(x, y), x + row.dx(step), y + row.dy(step));
                }
            }
        }

        /** Finds how cell c goes on best, where the move alone would lead to x, y. */
        private void rate(int step, int c, int x, int y) {
            int slot = step * MOST_CELLS + c;
            if (c < 0 || c >= MOST_CELLS || slot < 0 || slot >= followers.length) {
                return;
            }
            faults[c] = NONE;
            ways[c] = 0;
            followers[slot] = NONE;
            // The targets come with rising numbers, so of like ones the least stays.
            for (int b = -1; b <= 1; b++) {
                for (int a = -1; a <= 1; a++) {
                    int target = hills.cellAt(x + a, y + b);
                    if (leads(target, gauge.weight(a, b), c)) {
                        faults[c] = laterFaults[target];
                        ways[c] = laterWays[target] * gauge.weight(a, b);
                        followers[slot] = target;
                    }
                }
            }
            if (faults[c] != NONE) {
                faults[c] += row.faultAt(step, hills.heightOf(c));
            }
        }

        /** Whether going on to the target is better than the best that cell c has so far. */
        private boolean leads(int target, int weight, int c) {
            if (target < 0 || target >= MOST_CELLS || c < 0 || c >= MOST_CELLS) {
                return false;
            }
            if (weight == 0 || laterFaults[target] == NONE) {
                return false;
            }
            return faults[c] == NONE || isBetter(laterFaults[target], laterWays[target] * weight, faults[c], ways[c]);
        }

        private static boolean isBetter(int fault, long way, int thanFault, long thanWay) {
            return fault < thanFault || fault == thanFault && way > thanWay;
        }

        private int bestFirst() {
            int found = NONE;
            for (int c = 0; c < MOST_CELLS; c++) {
                boolean open = faults[c] != NONE && (row.start() == NONE || row.start() == c);
                if (open && (found == NONE || isBetter(faults[c], ways[c], faults[found], ways[found]))) {
                    found = c;
                }
            }
            return found;
        }

        private void keepPath(int first) {
            int c = first;
            path[0] = c;
            pathSize = row.moves() + 1;
            for (int step = 0; step + 1 < pathSize && step < MOST_MOVES; step++) {
                int slot = step * MOST_CELLS + c;
                c = slot >= 0 && slot < followers.length ? followers[slot] : NONE;
                path[step + 1] = c;
            }
        }
    }

    /** Pairs of cells that a route of the tape can't tell apart. */
    private static final class TwinSearch {
        private final Hills hills;
        private final Gauge gauge;
        private final Tape tape;
        /** How far from its beginning a route is, behind each of its moves. */
        private final int[] offXs = new int[MOST_ROUTE_MOVES + 1];
        private final int[] offYs = new int[MOST_ROUTE_MOVES + 1];
        private int routeMoves = 0;
        /** For each cell from which the route is flown, the cell's number. */
        private final int[] starts = new int[MOST_CELLS];
        private int startCount = 0;
        /** The heights met from each such cell on. */
        private final int[] profiles = new int[MOST_CELLS * (MOST_ROUTE_MOVES + 1)];
        private int leastPair = NONE;
        private int keptPair = NONE;

        TwinSearch(Hills hills, Gauge gauge, Tape tape) {
            this.hills = hills;
            this.gauge = gauge;
            this.tape = tape;
        }

        int firstPair() {
            return keptPair;
        }

        int twinsOfTape() {
            int found = countTwins(0, tape.size());
            if (found != NONE) {
                keptPair = leastPair;
            }
            return found;
        }

        int tellingRoute(int n) {
            if (n < 1 || n > MOST_ROUTES || tape.size() % n != 0) {
                return NONE;
            }
            int size = tape.size() / n;
            int found = NONE;
            int fewest = 0;
            for (int i = 0; i < n; i++) {
                int twins = countTwins(i * size, size);
                if (twins == NONE) {
                    return NONE;
                }
                if (found == NONE || twins < fewest) {
                    found = i;
                    fewest = twins;
                }
            }
            return found;
        }

        /** NONE: the tape's bytes there are no route. */
        private int countTwins(int from, int size) {
            if (!layRoute(from, size)) {
                return NONE;
            }
            flyFromAll();
            leastPair = NONE;
            int found = 0;
            for (int one = 0; one < startCount; one++) {
                for (int other = one + 1; other < startCount; other++) {
                    if (areTwins(one, other)) {
                        found++;
                        leastPair = leastPair == NONE ? PAIR_FACTOR * starts[one] + starts[other] : leastPair;
                    }
                }
            }
            return found;
        }

        private boolean layRoute(int from, int size) {
            if (size % 2 != 0 || size > 2 * MOST_ROUTE_MOVES) {
                return false;
            }
            routeMoves = size / 2;
            for (int i = 0; i < routeMoves; i++) {
                int dx = tape.signedAt(from + 2 * i);
                int dy = tape.signedAt(from + 2 * i + 1);
                if (!isMove(dx, dy)) {
                    return false;
                }
                offXs[i + 1] = offXs[i] + dx;
                offYs[i + 1] = offYs[i] + dy;
            }
            return true;
        }

        private void flyFromAll() {
            startCount = 0;
            for (int y = 0; y < hills.depth(); y++) {
                for (int x = 0; x < hills.width(); x++) {
                    if (startCount < MOST_CELLS && isFlown(x, y)) {
                        starts[startCount] = hills.cellAt(x, y);
                        startCount++;
                    }
                }
            }
        }

        /** Whether the route stays on the map; the heights that it meets are written behind those met before. */
        private boolean isFlown(int x, int y) {
            for (int i = 0; i <= routeMoves; i++) {
                int c = hills.cellAt(x + offXs[i], y + offYs[i]);
                int slot = startCount * (MOST_ROUTE_MOVES + 1) + i;
                if (c == NONE || slot < 0 || slot >= profiles.length) {
                    return false;
                }
                profiles[slot] = hills.heightOf(c);
            }
            return true;
        }

        private boolean areTwins(int one, int other) {
            for (int i = 0; i <= routeMoves; i++) {
                int oneSlot = one * (MOST_ROUTE_MOVES + 1) + i;
                int otherSlot = other * (MOST_ROUTE_MOVES + 1) + i;
                if (oneSlot < 0 || oneSlot >= profiles.length || otherSlot < 0 || otherSlot >= profiles.length) {
                    return false;
                }
                if (!gauge.alike(profiles[oneSlot], profiles[otherSlot])) {
                    return false;
                }
            }
            return true;
        }
    }
}
