import java.util.Arrays;
import java.util.NoSuchElementException;

/** A HillFinder whose calls are counted, as the document tells nothing behind the 512th, with calls that tests share. */
final class Watched {
    static final int UNTOLD = 255;
    static final int NONE = -1;
    static final int LOST = -2;
    /** What share answers here where it throws NoSuchElementException. */
    static final long THROWN = Long.MIN_VALUE;
    static final int MOST_CALLS = 512;

    private final HillFinder finder = new HillFinder();
    private int calls = 0;

    /** A new object over a map that has just been told. */
    static Watched over(int w, int h, int... heights) {
        Watched x = new Watched().put(heights);
        if (!x.map(w, h)) {
            throw new IllegalStateException("map(" + w + ", " + h + ") was refused");
        }
        return x;
    }

    static Watched overLike(int w, int h, int height) {
        return over(w, h, like(w * h, height));
    }

    static int[] like(int size, int value) {
        int[] all = new int[size];
        Arrays.fill(all, value);
        return all;
    }

    /** Numbers outside of least to greatest: next to it, where a byte or a short wraps round into it, the farthest. */
    static int[] outside(int least, int greatest) {
        return new int[] {least - 1, greatest + 1, least - 2, greatest + 2, least + 256, greatest - 256, least + 65536,
            greatest - 65536, least + Integer.MIN_VALUE, greatest + Integer.MIN_VALUE, Integer.MIN_VALUE,
            Integer.MIN_VALUE + 1, Integer.MAX_VALUE - 1, Integer.MAX_VALUE};
    }

    private HillFinder next() {
        calls++;
        if (calls > MOST_CALLS) {
            throw new IllegalStateException("this test makes more than 512 calls");
        }
        return finder;
    }

    int calls() {
        return calls;
    }

    int feed(int a, int b, int c, int d, int e) {
        return next().feed(a, b, c, d, e);
    }

    boolean end(int n) {
        return next().end(n);
    }

    boolean map(int w, int h) {
        return next().map(w, h);
    }

    boolean meter(int err, int w0, int w1) {
        return next().meter(err, w0, w1);
    }

    boolean begin(int c) {
        return next().begin(c);
    }

    int move(int dx, int dy) {
        return next().move(dx, dy);
    }

    int read(int v) {
        return next().read(v);
    }

    long share(int c, int what) {
        HillFinder x = next();
        try {
            return x.share(c, what);
        } catch (NoSuchElementException e) {
            return THROWN;
        }
    }

    int likely() {
        return next().likely();
    }

    int span(int what) {
        return next().span(what);
    }

    int best() {
        return next().best();
    }

    int path(int i) {
        return next().path(i);
    }

    int twins() {
        return next().twins();
    }

    int twin() {
        return next().twin();
    }

    int route(int n) {
        return next().route(n);
    }

    int check(int c, int v) {
        return next().check(c, v);
    }

    int height(int c) {
        return next().height(c);
    }

    int count(int what) {
        return next().count(what);
    }

    /** The tape has these bytes alone then. */
    Watched put(int... bytes) {
        end(0);
        for (int i = 0; i < bytes.length; i += 20) {
            int[] five = new int[5];
            for (int k = 0; k < 20; k++) {
                five[k / 4] = five[k / 4] << 8 | (i + k < bytes.length ? bytes[i + k] & 255 : 0);
            }
            feed(five[0], five[1], five[2], five[3], five[4]);
        }
        end(bytes.length);
        return this;
    }

    /** The part of all shares that cell c has, as upper/lower. */
    String part(int c) {
        return share(c, 0) + "/" + share(c, 1);
    }

    /** The parts of the first so many cells. */
    String parts(int cells) {
        StringBuilder all = new StringBuilder();
        for (int c = 0; c < cells; c++) {
            all.append(c == 0 ? "" : " ").append(part(c));
        }
        return all.toString();
    }

    /** Least x, greatest x, least y, greatest y, and how many cells have a share. */
    String spans() {
        return span(0) + " " + span(1) + " " + span(2) + " " + span(3) + " " + span(4);
    }

    /** What best() answers and the cells of the path. */
    String bestPath() {
        StringBuilder all = new StringBuilder().append(best()).append(":");
        int c = path(0);
        for (int i = 1; c != NONE; i++) {
            all.append(' ').append(c);
            c = path(i);
        }
        return all.toString();
    }

    String heights(int cells) {
        StringBuilder all = new StringBuilder();
        for (int c = 0; c < cells; c++) {
            all.append(c == 0 ? "" : " ").append(height(c));
        }
        return all.toString();
    }

    /** What all the calls answer that change nothing; of a large map's cells some alone. */
    String look() {
        StringBuilder all = new StringBuilder("counts");
        for (int what = 0; what < 8; what++) {
            all.append(' ').append(count(what));
        }
        int cells = count(0) * count(1);
        all.append(" spans ").append(spans()).append(" likely ").append(likely()).append(" cells");
        for (int c = 0; c < cells; c += cells > 20 ? 13 : 1) {
            all.append(' ').append(height(c)).append(',').append(part(c));
        }
        all.append(" path");
        for (int i = 0; i < 14; i++) {
            all.append(' ').append(path(i));
        }
        return all.append(" twin ").append(twin()).toString();
    }
}
