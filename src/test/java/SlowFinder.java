import java.math.BigInteger;
import java.util.ArrayList;
import java.util.Arrays;
import java.util.Collections;
import java.util.List;

/**
 * The document once more, in another way and without care for speed: what ModelRuns compares HillFinder with.
 * Shares are BigIntegers told by all the cells that they come from, paths are lists that grow from their beginning.
 */
final class SlowFinder {
    private record Spot(int x, int y) { }
    private record Sighting(int behindMoves, int value) { }
    private record Trail(int fault, BigInteger ways, List<Integer> cells) { }

    int w = 2;
    int h = 2;
    Integer[] heights = new Integer[4];
    List<List<Integer>> speeches = emptySpeeches(4);
    int err = 0;
    int w0 = 1;
    int w1 = 0;
    List<Integer> tape = new ArrayList<>();
    BigInteger[] shares = ones(4);
    List<Spot> moves = new ArrayList<>();
    List<Sighting> sightings = new ArrayList<>();
    int only = -1;
    int lost = 0;
    int mended = 0;
    List<Integer> path = List.of();
    int firstPair = -1;
    private int latestFirstPair = -1;

    private static BigInteger[] ones(int n) {
        BigInteger[] all = new BigInteger[n];
        Arrays.fill(all, BigInteger.ONE);
        return all;
    }

    private static List<List<Integer>> emptySpeeches(int n) {
        List<List<Integer>> all = new ArrayList<>();
        for (int i = 0; i < n; i++) {
            all.add(new ArrayList<>());
        }
        return all;
    }

    private static boolean within(int least, int value, int greatest) {
        return least <= value && value <= greatest;
    }

    private Integer cell(int x, int y) {
        return within(0, x, w - 1) && within(0, y, h - 1) ? w * y + x : null;
    }

    private boolean fits(int v, int c) {
        return heights[c] == null || within(v - err, heights[c], v + err);
    }

    int feed(int... numbers) {
        if (tape.size() > 140) {
            return -1;
        }
        for (int number : numbers) {
            for (byte b : BigInteger.valueOf(number & 0xFFFFFFFFL).or(BigInteger.ONE.shiftLeft(32)).toByteArray()) {
                tape.add(b & 255);
            }
            tape.remove(tape.size() - 5);
        }
        return tape.size();
    }

    boolean end(int n) {
        if (!within(0, n, tape.size())) {
            return false;
        }
        tape = new ArrayList<>(tape.subList(0, n));
        return true;
    }

    boolean map(int newW, int newH) {
        List<Integer> told = tape;
        tape = new ArrayList<>();
        if (!within(2, newW, 12) || !within(2, newH, 12) || told.size() != newW * newH) {
            return false;
        }
        for (int value : told) {
            if (within(251, value, 254)) {
                return false;
            }
        }
        w = newW;
        h = newH;
        heights = new Integer[w * h];
        for (int c = 0; c < w * h; c++) {
            heights[c] = told.get(c) == 255 ? null : told.get(c);
        }
        speeches = emptySpeeches(w * h);
        lost = 0;
        mended = 0;
        return begin(-1);
    }

    boolean meter(int newErr, int newW0, int newW1) {
        if (!within(0, newErr, 20) || !within(1, newW0, 3) || !within(0, newW1, 1)) {
            return false;
        }
        err = newErr;
        w0 = newW0;
        w1 = newW1;
        return true;
    }

    boolean begin(int c) {
        if (!within(-1, c, w * h - 1)) {
            return false;
        }
        moves.clear();
        sightings.clear();
        only = c;
        shares = ones(w * h);
        if (c >= 0) {
            Arrays.fill(shares, BigInteger.ZERO);
            shares[c] = BigInteger.ONE;
        }
        return true;
    }

    private int weight(int fromX, int toX, int d) {
        int drift = toX - fromX - d;
        return drift == 0 ? w0 : Math.abs(drift) == 1 ? w1 : 0;
    }

    private int weightBetween(int from, int to, Spot move) {
        return weight(from % w, to % w, move.x()) * weight(from / w, to / w, move.y());
    }

    int holders() {
        int n = 0;
        for (BigInteger share : shares) {
            n += share.signum();
        }
        return n;
    }

    int move(int dx, int dy) {
        if (!within(-5, dx, 5) || !within(-5, dy, 5) || moves.size() == 12) {
            return -1;
        }
        Spot move = new Spot(dx, dy);
        BigInteger[] next = new BigInteger[w * h];
        for (int to = 0; to < w * h; to++) {
            next[to] = BigInteger.ZERO;
            for (int from = 0; from < w * h; from++) {
                next[to] = next[to].add(shares[from].multiply(BigInteger.valueOf(weightBetween(from, to, move))));
            }
        }
        shares = next;
        if (holders() == 0) {
            lost++;
            begin(-1);
            return -2;
        }
        moves.add(move);
        return holders();
    }

    private BigInteger[] fitting(BigInteger[] before, int v) {
        BigInteger[] kept = before.clone();
        for (int c = 0; c < w * h; c++) {
            if (!fits(v, c)) {
                kept[c] = BigInteger.ZERO;
            }
        }
        return kept;
    }

    int read(int v) {
        if (!within(0, v, 250) || sightings.size() == 40) {
            return -1;
        }
        shares = fitting(shares, v);
        boolean gone = holders() == 0;
        if (gone) {
            lost++;
            begin(-1);
            shares = fitting(ones(w * h), v);
            if (holders() == 0) {
                shares = ones(w * h);
            }
        }
        sightings.add(new Sighting(moves.size(), v));
        return gone ? -2 : holders();
    }

    BigInteger share(int c, int what) {
        if (!within(0, c, w * h - 1) || !within(0, what, 1)) {
            return null;
        }
        BigInteger all = BigInteger.ZERO;
        for (BigInteger share : shares) {
            all = all.add(share);
        }
        return (what == 0 ? shares[c] : all).divide(shares[c].gcd(all));
    }

    int likely() {
        return Arrays.asList(shares).indexOf(Collections.max(Arrays.asList(shares)));
    }

    int span(int what) {
        List<Integer> places = new ArrayList<>();
        for (int c = 0; c < w * h; c++) {
            if (shares[c].signum() > 0) {
                places.add(what < 2 ? c % w : c / w);
            }
        }
        switch (what) {
            case 0: case 2: return Collections.min(places);
            case 1: case 3: return Collections.max(places);
            case 4: return places.size();
            default: return -1;
        }
    }

    private static int compare(Trail a, Trail b) {
        if (a.fault() != b.fault()) {
            return Integer.compare(a.fault(), b.fault());
        }
        if (!a.ways().equals(b.ways())) {
            return b.ways().compareTo(a.ways());
        }
        return Arrays.compare(a.cells().stream().mapToInt(i -> i).toArray(),
            b.cells().stream().mapToInt(i -> i).toArray());
    }

    private Trail longer(Trail before, int c) {
        int fault = before.fault();
        for (Sighting s : sightings) {
            if (s.behindMoves() == before.cells().size() && heights[c] != null) {
                fault += Math.abs(s.value() - heights[c]);
            }
        }
        BigInteger ways = before.ways();
        int size = before.cells().size();
        if (size > 0) {
            ways = ways.multiply(BigInteger.valueOf(weightBetween(before.cells().get(size - 1), c, moves.get(size - 1))));
        }
        List<Integer> cells = new ArrayList<>(before.cells());
        cells.add(c);
        return new Trail(fault, ways, cells);
    }

    /** Of the trails that end in one cell only the best is kept, as what may follow is the same for all. */
    private Trail bestTrail(boolean keepAll) {
        List<Trail> open = List.of(new Trail(0, BigInteger.ONE, List.of()));
        for (int size = 0; size <= moves.size(); size++) {
            List<Trail> next = new ArrayList<>();
            for (int c = 0; c < w * h; c++) {
                Trail best = null;
                for (Trail t : open) {
                    if (size == 0 && only >= 0 && c != only) {
                        continue;
                    }
                    Trail longer = longer(t, c);
                    if (longer.ways().signum() == 0) {
                        continue;
                    }
                    if (keepAll) {
                        next.add(longer);
                    } else if (best == null || compare(longer, best) < 0) {
                        best = longer;
                    }
                }
                if (best != null) {
                    next.add(best);
                }
            }
            open = next;
        }
        return open.isEmpty() ? null : Collections.min(open, SlowFinder::compare);
    }

    int best() {
        // All paths there are, where they are few.
        Trail trail = bestTrail(w * h * Math.pow(w1 == 0 ? 1 : 9, moves.size()) < 3000);
        if (trail == null) {
            return -1;
        }
        path = trail.cells();
        return trail.fault();
    }

    int path(int i) {
        return within(0, i, path.size() - 1) ? path.get(i) : -1;
    }

    /** The heights from a cell on; null where the route leaves the map. */
    private List<Integer> heightsMet(int c, List<Spot> route) {
        List<Integer> met = new ArrayList<>();
        met.add(heights[c]);
        int x = c % w;
        int y = c / w;
        for (Spot move : route) {
            x += move.x();
            y += move.y();
            if (cell(x, y) == null) {
                return null;
            }
            met.add(heights[cell(x, y)]);
        }
        return met;
    }

    private boolean alike(List<Integer> one, List<Integer> other) {
        for (int i = 0; i < one.size(); i++) {
            if (one.get(i) != null && other.get(i) != null && Math.abs(one.get(i) - other.get(i)) > err + err) {
                return false;
            }
        }
        return true;
    }

    private int twinsBy(List<Integer> bytes) {
        if (bytes.size() % 2 == 1 || bytes.size() > 16) {
            return -1;
        }
        List<Spot> route = new ArrayList<>();
        for (int i = 0; i < bytes.size(); i += 2) {
            route.add(new Spot((byte) bytes.get(i).intValue(), (byte) bytes.get(i + 1).intValue()));
            if (!within(-5, route.get(i / 2).x(), 5) || !within(-5, route.get(i / 2).y(), 5)) {
                return -1;
            }
        }
        int pairs = 0;
        latestFirstPair = -1;
        for (int one = w * h - 1; one >= 0; one--) {
            for (int other = w * h - 1; other > one; other--) {
                List<Integer> met = heightsMet(one, route);
                List<Integer> otherMet = heightsMet(other, route);
                if (met != null && otherMet != null && alike(met, otherMet)) {
                    pairs++;
                    latestFirstPair = 200 * one + other;
                }
            }
        }
        return pairs;
    }

    int twins() {
        int pairs = twinsBy(tape);
        tape = new ArrayList<>();
        if (pairs >= 0) {
            firstPair = latestFirstPair;
        }
        return pairs;
    }

    int twin() {
        return firstPair;
    }

    int route(int n) {
        List<Integer> bytes = tape;
        tape = new ArrayList<>();
        if (!within(1, n, 8) || bytes.size() % n > 0) {
            return -1;
        }
        List<Integer> counts = new ArrayList<>();
        for (int i = 0; i < n; i++) {
            int size = bytes.size() / n;
            counts.add(twinsBy(bytes.subList(i * size, (i + 1) * size)));
        }
        return counts.contains(-1) ? -1 : counts.indexOf(Collections.min(counts));
    }

    int check(int c, int v) {
        if (!within(0, c, w * h - 1) || !within(0, v, 250)) {
            return -1;
        }
        List<Integer> spoken = speeches.get(c);
        if (heights[c] == null) {
            heights[c] = v;
            mended++;
            return 2;
        }
        if (fits(v, c)) {
            spoken.clear();
            return 0;
        }
        spoken.add(v);
        int size = spoken.size();
        if (size < 3) {
            return 1;
        }
        List<Integer> three = new ArrayList<>(spoken.subList(size - 3, size));
        Collections.sort(three);
        if (three.get(0) > heights[c] || three.get(2) < heights[c]) {
            heights[c] = three.get(1);
            spoken.clear();
            mended++;
            return 2;
        }
        return 1;
    }

    int height(int c) {
        return !within(0, c, w * h - 1) ? -2 : heights[c] == null ? -1 : heights[c];
    }

    int count(int what) {
        int[] counts = {w, h, err, moves.size(), sightings.size(), lost, mended, tape.size()};
        return within(0, what, 7) ? counts[what] : -1;
    }
}
