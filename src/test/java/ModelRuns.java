import java.math.BigInteger;
import java.util.NoSuchElementException;

/** Long runs of calls, drawn from a counter of its own, each answer compared with that of SlowFinder. */
public final class ModelRuns {
    private static final int RUNS = 1200;
    private static final int CALLS = 512;

    private static int wrong = 0;
    private static long compared = 0;

    private final int run;
    private final HillFinder fast = new HillFinder();
    private final SlowFinder slow = new SlowFinder();
    private final StringBuilder story = new StringBuilder();
    private final boolean small;
    /** A calm run seldom gets lost, so its rows grow long. */
    private final boolean calm;
    private long seed;
    private int calls = 0;
    private boolean failed = false;
    private int trueX = 0;
    private int trueY = 0;

    private ModelRuns(int run) {
        this.run = run;
        this.seed = run * 7919L + 12345;
        this.small = run % 3 == 0;
        this.calm = run % 4 != 1;
    }

    private int draw(int bound) {
        seed = seed * 6364136223846793005L + 1442695040888963407L;
        return (int) ((seed >>> 33) % bound);
    }

    private int drawFrom(int least, int greatest) {
        return least + draw(greatest - least + 1);
    }

    private void same(String call, long got, long want) {
        calls++;
        compared++;
        story.append(call).append("; ");
        if (got != want && !failed) {
            failed = true;
            wrong++;
            String told = story.toString();
            System.out.println("run " + run + ": " + call + " answered " + got + ", due is " + want + ", behind: "
                + told.substring(Math.max(0, told.length() - 3000)));
        }
    }

    private static long one(boolean b) {
        return b ? 1 : 0;
    }

    private void feed(int a, int b, int c, int d, int e) {
        same("feed(" + a + ", " + b + ", " + c + ", " + d + ", " + e + ")", fast.feed(a, b, c, d, e), slow.feed(a, b, c, d, e));
    }

    private void end(int n) {
        same("end(" + n + ")", one(fast.end(n)), one(slow.end(n)));
    }

    private void put(int[] bytes) {
        end(0);
        for (int i = 0; i < bytes.length; i += 20) {
            int[] five = new int[5];
            for (int k = 0; k < 20; k++) {
                five[k / 4] = five[k / 4] << 8 | (i + k < bytes.length ? bytes[i + k] & 255 : draw(256));
            }
            feed(five[0], five[1], five[2], five[3], five[4]);
        }
        end(bytes.length);
    }

    private void drawMap() {
        int w = small ? drawFrom(2, 4) : drawFrom(2, 12);
        int h = small ? drawFrom(2, 4) : drawFrom(2, 12);
        int[] bytes = new int[w * h];
        int tallest = new int[] {1, 3, 10, 40, 250}[draw(5)];
        int gaps = draw(3) * 8;
        for (int i = 0; i < bytes.length; i++) {
            bytes[i] = draw(100) < gaps ? 255 : draw(tallest + 1);
        }
        int spoil = draw(12);
        if (spoil == 0) {
            bytes[draw(bytes.length)] = drawFrom(251, 254);
        }
        put(bytes);
        int toldW = spoil == 1 ? drawFrom(-1, 14) : w;
        int toldH = spoil == 2 ? drawFrom(-1, 14) : h;
        same("map(" + toldW + ", " + toldH + ")", one(fast.map(toldW, toldH)), one(slow.map(toldW, toldH)));
        drawTruth();
    }

    private void drawTruth() {
        trueX = draw(slow.w);
        trueY = draw(slow.h);
    }

    private void drawMeter() {
        boolean wild = draw(8) == 0;
        int err = wild ? drawFrom(-1, 21) : draw(4);
        int w0 = wild ? drawFrom(0, 4) : drawFrom(1, 3);
        int w1 = wild ? drawFrom(-1, 2) : draw(2);
        same("meter(" + err + ", " + w0 + ", " + w1 + ")", one(fast.meter(err, w0, w1)), one(slow.meter(err, w0, w1)));
    }

    private void drawBegin() {
        drawTruth();
        int c = draw(3) == 0 ? drawFrom(-2, slow.w * slow.h) : draw(2) == 0 ? -1 : slow.w * trueY + trueX;
        same("begin(" + c + ")", one(fast.begin(c)), one(slow.begin(c)));
    }

    private void drawMove() {
        int reach = draw(12) == 0 ? 6 : draw(3) == 0 && !calm ? 5 : 1;
        int dx = drawFrom(-reach, reach);
        int dy = drawFrom(-reach, reach);
        boolean stays = trueX + dx >= 0 && trueX + dx < slow.w && trueY + dy >= 0 && trueY + dy < slow.h;
        if (!stays && (calm ? draw(40) > 0 : draw(5) > 0)) {
            return;
        }
        same("move(" + dx + ", " + dy + ")", fast.move(dx, dy), slow.move(dx, dy));
        trueX = Math.max(0, Math.min(slow.w - 1, trueX + dx));
        trueY = Math.max(0, Math.min(slow.h - 1, trueY + dy));
    }

    private void drawRead() {
        int there = slow.height(slow.w * trueY + trueX);
        int v = draw(calm ? 60 : 8) == 0 ? drawFrom(-2, 252) : Math.max(0, there) + drawFrom(-slow.err, slow.err);
        same("read(" + v + ")", fast.read(v), slow.read(v));
    }

    private int[] drawRouteBytes(int moves) {
        int[] bytes = new int[2 * moves];
        int reach = drawFrom(0, 2) == 0 ? 5 : 1;
        for (int i = 0; i < bytes.length; i++) {
            bytes[i] = drawFrom(-reach, reach);
        }
        if (draw(10) == 0 && moves > 0) {
            bytes[draw(bytes.length)] = draw(2) == 0 ? 6 : -6;
        }
        return bytes;
    }

    private void drawTwins() {
        put(drawRouteBytes(draw(10)));
        if (draw(10) == 0 && slow.tape.size() > 0) {
            end(slow.tape.size() - 1);
        }
        same("twins()", fast.twins(), slow.twins());
        same("twin()", fast.twin(), slow.twin());
    }

    private void drawRoute() {
        int n = drawFrom(1, 8);
        int moves = draw(9);
        int[] all = new int[2 * moves * n];
        for (int i = 0; i < n; i++) {
            System.arraycopy(drawRouteBytes(moves), 0, all, 2 * moves * i, 2 * moves);
        }
        put(all);
        int told = draw(6) == 0 ? drawFrom(-1, 10) : n;
        same("route(" + told + ")", fast.route(told), slow.route(told));
        same("twin()", fast.twin(), slow.twin());
    }

    private void drawCheck() {
        int c = draw(4) == 0 ? drawFrom(-1, slow.w * slow.h) : draw(3);
        int v = Math.max(0, slow.height(c)) + drawFrom(-4, 9);
        same("check(" + c + ", " + v + ")", fast.check(c, v), slow.check(c, v));
    }

    private void compareBest() {
        same("best()", fast.best(), slow.best());
        for (int i = 0; i <= slow.path.size(); i++) {
            same("path(" + i + ")", fast.path(i), slow.path(i));
        }
        int wild = drawFrom(-2, 14);
        same("path(" + wild + ")", fast.path(wild), slow.path(wild));
    }

    private void compareShare(int c, int what) {
        BigInteger want = slow.share(c, what);
        try {
            long got = fast.share(c, what);
            same("share(" + c + ", " + what + ")", got, want == null ? Long.MIN_VALUE : want.longValueExact());
        } catch (NoSuchElementException e) {
            same("share(" + c + ", " + what + ") throws", 1, want == null ? 1 : 0);
        }
    }

    private void look() {
        int cells = slow.w * slow.h;
        same("likely()", fast.likely(), slow.likely());
        for (int what = -1; what <= 5; what++) {
            same("span(" + what + ")", fast.span(what), slow.span(what));
        }
        for (int k = 0; k < 4; k++) {
            compareShare(drawFrom(-1, cells), drawFrom(0, 1));
        }
        compareShare(drawFrom(0, cells - 1), drawFrom(-1, 2));
        int c = drawFrom(-1, cells);
        same("height(" + c + ")", fast.height(c), slow.height(c));
        for (int what = -1; what <= 8; what++) {
            same("count(" + what + ")", fast.count(what), slow.count(what));
        }
    }

    private void step() {
        int kind = draw(100);
        if (kind < 32) {
            drawMove();
        } else if (kind < 54) {
            drawRead();
        } else if (kind < 64) {
            compareBest();
        } else if (kind < 70) {
            drawTwins();
        } else if (kind < 74) {
            drawRoute();
        } else if (kind < 86) {
            drawCheck();
        } else if (kind < 90) {
            drawBegin();
        } else if (kind < 93) {
            drawMeter();
        } else if (kind < 94) {
            drawMap();
        } else if (kind < 97) {
            feed(draw(1 << 30), -draw(1 << 30), draw(256), -1, draw(1 << 30) << 2);
            end(drawFrom(-1, slow.tape.size() + 1));
        } else {
            look();
        }
    }

    private void go() {
        if (run % 5 > 0) {
            drawMap();
        }
        drawMeter();
        while (calls < CALLS - 45 && !failed) {
            step();
        }
        if (!failed) {
            look();
            compareBest();
        }
    }

    public static void main(String[] args) {
        for (int run = 0; run < RUNS; run++) {
            new ModelRuns(run).go();
        }
        System.out.println("ModelRuns: " + compared + " answers compared, " + wrong + " runs not as due");
        if (wrong != 0) {
            System.exit(1);
        }
    }
}
