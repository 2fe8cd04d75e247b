import java.util.NoSuchElementException;

/** What each promise says, told by hand: ordinary inputs, the edges that the document names, wrong inputs. */
public final class PromiseRuns {
    private static final int UNTOLD = 255;
    private static final int LOST = -2;

    private static int passed = 0;
    private static int failed = 0;
    private static String promise = "";

    private static void due(String call, long got, long want) {
        if (got == want) {
            passed++;
        } else {
            failed++;
            System.out.println(promise + ": " + call + " answered " + got + ", due is " + want);
        }
    }

    private static void due(String call, boolean got, boolean want) {
        due(call, got ? 1 : 0, want ? 1 : 0);
    }

    private static void dueShare(HillFinder x, int c, long upper, long lower) {
        due("share(" + c + ", 0)", x.share(c, 0), upper);
        due("share(" + c + ", 1)", x.share(c, 1), lower);
    }

    private static void dueNoShare(HillFinder x, int c, int what) {
        boolean thrown = false;
        try {
            x.share(c, what);
        } catch (NoSuchElementException e) {
            thrown = true;
        }
        due("share(" + c + ", " + what + ") throws", thrown, true);
    }

    private static void duePath(HillFinder x, int... cells) {
        for (int i = 0; i < cells.length; i++) {
            due("path(" + i + ")", x.path(i), cells[i]);
        }
        due("path behind the end", x.path(cells.length), HillFinder.NONE);
    }

    private static void put(HillFinder x, int... bytes) {
        x.end(0);
        for (int i = 0; i < bytes.length; i += 20) {
            int[] five = new int[5];
            for (int k = 0; k < 20; k++) {
                five[k / 4] = five[k / 4] << 8 | (i + k < bytes.length ? bytes[i + k] & 255 : 0);
            }
            x.feed(five[0], five[1], five[2], five[3], five[4]);
        }
        due("end(" + bytes.length + ")", x.end(bytes.length), true);
    }

    private static HillFinder over(int w, int h, int... heights) {
        HillFinder x = new HillFinder();
        put(x, heights);
        due("map(" + w + ", " + h + ")", x.map(w, h), true);
        return x;
    }

    private static HillFinder overLike(int w, int h, int height) {
        int[] heights = new int[w * h];
        java.util.Arrays.fill(heights, height);
        return over(w, h, heights);
    }

    private static void aNewObject() {
        HillFinder x = new HillFinder();
        int[] counts = {2, 2, 0, 0, 0, 0, 0, 0};
        for (int what = 0; what < counts.length; what++) {
            due("count(" + what + ")", x.count(what), counts[what]);
        }
        for (int c = 0; c < 4; c++) {
            due("height(" + c + ")", x.height(c), HillFinder.NONE);
            dueShare(x, c, 1, 4);
        }
        due("height(4)", x.height(4), -2);
        due("twin()", x.twin(), HillFinder.NONE);
        due("path(0)", x.path(0), HillFinder.NONE);
        // Weights 1 and 0: a move without drift.
        due("move(1, 0)", x.move(1, 0), 2);
        dueShare(x, 1, 1, 2);
        dueShare(x, 0, 0, 1);
        due("ERR 0: check", new HillFinder().check(0, 9), 2);
        due("NONE", HillFinder.NONE, -1);
    }

    private static void feed() {
        HillFinder x = new HillFinder();
        due("feed", x.feed(0x01020304, 0xFF06FA00, 0x0A0B0C0D, 0x10111213, 0x14151617), 20);
        x.end(4 * 3);
        due("map(4, 3)", x.map(4, 3), true);
        int[] heights = {1, 2, 3, 4, -1, 6, 250, 0, 10, 11, 12, 13};
        for (int c = 0; c < heights.length; c++) {
            due("height(" + c + ")", x.height(c), heights[c]);
        }
        for (int n = 20; n <= 160; n += 20) {
            due("feed", x.feed(0, 0, 0, 0, 0), n);
        }
        due("feed beyond 160", x.feed(1, 1, 1, 1, 1), HillFinder.NONE);
        due("count(7)", x.count(7), 160);
        x.end(141);
        due("feed to 161", x.feed(1, 1, 1, 1, 1), HillFinder.NONE);
        due("count(7)", x.count(7), 141);
        x.end(140);
        due("feed to 160", x.feed(1, 1, 1, 1, 1), 160);
        // The fifth number's bytes come last, and those of the first stand behind what was there.
        HillFinder y = new HillFinder();
        y.feed(0x05050505, 0, 0, 0, 0);
        y.end(2);
        y.feed(0x07080000, 0, 0, 0, 0);
        y.end(4);
        y.map(2, 2);
        due("height(1)", y.height(1), 5);
        due("height(2)", y.height(2), 7);
        due("height(3)", y.height(3), 8);
    }

    private static void end() {
        HillFinder x = new HillFinder();
        due("end(0)", x.end(0), true);
        due("end(1)", x.end(1), false);
        due("end(-1)", x.end(-1), false);
        x.feed(1, 2, 3, 4, 5);
        due("end(21)", x.end(21), false);
        due("end(-1)", x.end(-1), false);
        due("end(MIN)", x.end(Integer.MIN_VALUE), false);
        due("end(MAX)", x.end(Integer.MAX_VALUE), false);
        due("count(7)", x.count(7), 20);
        due("end(20)", x.end(20), true);
        due("end(7)", x.end(7), true);
        due("count(7)", x.count(7), 7);
        due("end(8)", x.end(8), false);
    }

    private static void mapIsTold() {
        HillFinder x = over(3, 2, 0, 250, UNTOLD, 7, 8, 9);
        due("count(0)", x.count(0), 3);
        due("count(1)", x.count(1), 2);
        due("count(7)", x.count(7), 0);
        due("height(0)", x.height(0), 0);
        due("height(1)", x.height(1), 250);
        due("height(2)", x.height(2), HillFinder.NONE);
        due("height(5)", x.height(5), 9);
        x.meter(2, 3, 1);
        x.begin(4);
        x.move(0, 0);
        x.read(8);
        x.move(5, 5);
        x.check(0, 100);
        x.check(0, 100);
        x.check(2, 50);
        due("count(5)", x.count(5), 1);
        due("count(6)", x.count(6), 1);
        put(x, 0, 250, UNTOLD, 7, 8, 9);
        due("map(3, 2)", x.map(3, 2), true);
        due("lost is forgotten", x.count(5), 0);
        due("mended is forgotten", x.count(6), 0);
        due("a flight begins", x.count(3) + x.count(4), 0);
        due("with all", x.span(4), 6);
        due("height(2)", x.height(2), HillFinder.NONE);
        due("ERR stays", x.count(2), 2);
        due("what checks told is forgotten", x.check(0, 100), 1);
        due("and again", x.check(0, 100), 1);
        due("then it is mended", x.check(0, 100), 2);
        x.begin(0);
        due("WEIGHTS stay", x.move(0, 0), 4);
        dueShare(x, 0, 9, 16);
        HillFinder large = overLike(12, 12, 250);
        due("height(143)", large.height(143), 250);
        put(large, 1, 2, 3, 4);
        large.map(2, 2);
        due("a lesser map", large.span(4), 4);
        due("likely()", large.likely(), 0);
        due("height(4)", large.height(4), -2);
    }

    private static void dueNoMap(HillFinder x, int w, int h, int... bytes) {
        put(x, bytes);
        due("map(" + w + ", " + h + ") of " + bytes.length, x.map(w, h), false);
        due("the tape is empty then", x.count(7), 0);
        due("W", x.count(0), 2);
        due("H", x.count(1), 2);
        due("height(0)", x.height(0), 10);
        due("moves", x.count(3), 1);
        due("readings", x.count(4), 1);
        due("lost", x.count(5), 1);
        due("mended", x.count(6), 1);
        due("holders", x.span(4), 1);
    }

    private static void mapIsRefused() {
        HillFinder x = over(2, 2, 10, 20, 30, UNTOLD);
        x.check(3, 200);
        x.check(0, 15);
        x.check(0, 16);
        x.move(0, 2);
        x.read(20);
        x.move(-1, 1);
        dueNoMap(x, 2, 2, 1, 2, 3);
        dueNoMap(x, 2, 2, 1, 2, 3, 4, 5);
        dueNoMap(x, 2, 2);
        for (int value = 251; value <= 254; value++) {
            dueNoMap(x, 2, 2, 1, 2, 3, value);
        }
        dueNoMap(x, 1, 4, 1, 2, 3, 4);
        dueNoMap(x, 4, 1, 1, 2, 3, 4);
        dueNoMap(x, -2, -2, 1, 2, 3, 4);
        dueNoMap(x, 0, 0);
        dueNoMap(x, 13, 2, new int[26]);
        dueNoMap(x, 2, 13, new int[26]);
        dueNoMap(x, 1 << 16, 1 << 16);
        dueNoMap(x, Integer.MAX_VALUE, Integer.MIN_VALUE);
        due("what checks told stays", x.check(0, 17), 2);
    }

    private static void meter() {
        HillFinder x = over(2, 2, 10, 20, 30, 40);
        due("meter(20, 3, 1)", x.meter(20, 3, 1), true);
        due("count(2)", x.count(2), 20);
        int[][] wrong = {{-1, 1, 0}, {21, 1, 0}, {0, 0, 0}, {0, 4, 0}, {0, 1, -1}, {0, 1, 2},
            {Integer.MIN_VALUE, 1, 0}, {0, Integer.MAX_VALUE, 1}};
        for (int[] w : wrong) {
            due("meter(" + w[0] + ", " + w[1] + ", " + w[2] + ")", x.meter(w[0], w[1], w[2]), false);
            due("count(2)", x.count(2), 20);
        }
        due("read(50) with ERR 20", x.read(50), 2);
        due("meter(0, 2, 1)", x.meter(0, 2, 1), true);
        due("the shares stay", x.span(4), 2);
        due("the reading stays", x.count(4), 1);
        x.begin(0);
        due("move", x.move(0, 0), 4);
        dueShare(x, 0, 4, 9);
        dueShare(x, 3, 1, 9);
        x.meter(0, 3, 0);
        dueShare(x, 0, 4, 9);
        due("move", x.move(1, 0), 2);
        // Times 9 each: 36 and 18 of 54.
        dueShare(x, 1, 2, 3);
    }

    private static void begin() {
        HillFinder x = over(3, 2, 1, 2, 3, 4, 5, 6);
        due("begin(5)", x.begin(5), true);
        due("span(4)", x.span(4), 1);
        due("likely()", x.likely(), 5);
        x.move(-1, 0);
        x.read(5);
        for (int c : new int[] {6, -2, 144, Integer.MAX_VALUE, Integer.MIN_VALUE}) {
            due("begin(" + c + ")", x.begin(c), false);
            due("moves stay", x.count(3), 1);
            due("readings stay", x.count(4), 1);
            due("likely()", x.likely(), 4);
        }
        x.move(5, 5);
        due("count(5)", x.count(5), 1);
        due("begin(0)", x.begin(0), true);
        due("lost is not forgotten", x.count(5), 1);
        due("likely()", x.likely(), 0);
        x.read(1);
        x.move(0, 1);
        due("begin(NONE)", x.begin(HillFinder.NONE), true);
        due("moves", x.count(3), 0);
        due("readings", x.count(4), 0);
        due("span(4)", x.span(4), 6);
        dueShare(x, 3, 1, 6);
    }

    private static void move() {
        HillFinder x = overLike(5, 4, 9);
        x.meter(0, 2, 1);
        x.begin(12);
        due("move(1, -1)", x.move(1, -1), 9);
        // In the middle 4, beside it 2, at the corners 1, of 16.
        dueShare(x, 8, 1, 4);
        dueShare(x, 3, 1, 8);
        dueShare(x, 2, 1, 16);
        dueShare(x, 14, 1, 16);
        // Along x from 2, 3 and 4 with 1, 2 and 1: 1 to 2, 4 to 3, 6 to 4, and 5 beyond the map. Along y 4, 6, 4 and 1.
        due("move(1, 0)", x.move(1, 0), 12);
        dueShare(x, 2, 4, 11 * 15);
        // 36 of 165.
        dueShare(x, 9, 12, 55);
        for (int[] wrong : new int[][] {{6, 0}, {-6, 0}, {0, 6}, {0, -6}, {Integer.MAX_VALUE, 0}, {0, Integer.MIN_VALUE}}) {
            due("move(" + wrong[0] + ", " + wrong[1] + ")", x.move(wrong[0], wrong[1]), HillFinder.NONE);
            due("count(3)", x.count(3), 2);
        }
        due("lost", x.move(-5, 5), LOST);
        due("moves", x.count(3), 0);
        due("losses", x.count(5), 1);
        due("all have a share", x.span(4), 20);
        dueShare(x, 19, 1, 20);
    }

    private static void movesAreTwelve() {
        HillFinder x = overLike(3, 3, 9);
        for (int i = 1; i <= 12; i++) {
            due("move " + i, x.move(0, 0), 9);
        }
        due("move 13", x.move(0, 0), HillFinder.NONE);
        due("move 13, where one would be lost", x.move(5, 5), HillFinder.NONE);
        due("losses", x.count(5), 0);
        due("read(100)", x.read(100), LOST);
        due("moves", x.count(3), 0);
        due("a move again", x.move(0, 0), 9);
        x.begin(4);
        due("moves", x.count(3), 0);
        for (int i = 1; i <= 11; i++) {
            x.move(0, 0);
        }
        due("lost by the twelfth", x.move(2, 0), LOST);
        due("moves", x.count(3), 0);
        due("path(1) behind best()", x.best() + x.path(1), HillFinder.NONE);
        // The greatest shares there are: they stay exact.
        HillFinder y = overLike(12, 12, 9);
        y.meter(0, 3, 1);
        for (int i = 0; i < 12; i++) {
            due("move", y.move(0, 0), 144);
        }
        due("likely()", y.likely(), 65);
        // One number along a side, by matrices: upper over the sum of all, along x and y alike.
        long[] line = new long[12];
        java.util.Arrays.fill(line, 1);
        for (int i = 0; i < 12; i++) {
            long[] next = new long[12];
            for (int k = 0; k < 12; k++) {
                next[k] = 3 * line[k] + (k > 0 ? line[k - 1] : 0) + (k < 11 ? line[k + 1] : 0);
            }
            line = next;
        }
        java.math.BigInteger sum = java.math.BigInteger.ZERO;
        for (long part : line) {
            sum = sum.add(java.math.BigInteger.valueOf(part));
        }
        sum = sum.multiply(sum);
        java.math.BigInteger part = java.math.BigInteger.valueOf(line[0]).multiply(java.math.BigInteger.valueOf(line[5]));
        java.math.BigInteger divisor = sum.gcd(part);
        dueShare(y, 5, part.divide(divisor).longValueExact(), sum.divide(divisor).longValueExact());
    }

    private static void read() {
        HillFinder x = over(3, 2, 10, 13, 16, 19, UNTOLD, 250);
        x.meter(3, 1, 0);
        due("read(13)", x.read(13), 4);
        dueShare(x, 3, 0, 1);
        dueShare(x, 4, 1, 4);
        due("read(19)", x.read(19), 2);
        due("the UNTOLD one fits", x.read(250), 1);
        due("likely()", x.likely(), 4);
        for (int wrong : new int[] {-1, 251, Integer.MAX_VALUE, Integer.MIN_VALUE}) {
            due("read(" + wrong + ")", x.read(wrong), HillFinder.NONE);
            due("count(4)", x.count(4), 3);
        }
        due("read(0) still fits it", x.read(0), 1);
        HillFinder y = over(2, 2, 10, 20, 30, 30);
        due("read(10)", y.read(10), 1);
        due("lost", y.read(30), LOST);
        due("those that it fits", y.span(4), 2);
        dueShare(y, 3, 1, 2);
        due("losses", y.count(5), 1);
        due("the reading is in the row", y.count(4), 1);
        due("lost, nothing fits", y.read(99), LOST);
        due("all", y.span(4), 4);
        due("losses", y.count(5), 2);
        due("count(4)", y.count(4), 1);
        due("best()", y.best(), 69);
        y.begin(0);
        y.move(1, 0);
        due("lost behind a move", y.read(30), LOST);
        due("moves", y.count(3), 0);
        due("best() begins anywhere", y.best(), 0);
        duePath(y, 2);
    }

    private static void readingsAreForty() {
        HillFinder x = over(2, 2, 10, 10, 30, 30);
        for (int i = 1; i <= 40; i++) {
            due("read " + i, x.read(10), 2);
        }
        due("read 41", x.read(10), HillFinder.NONE);
        due("read 41, where one would be lost", x.read(30), HillFinder.NONE);
        due("losses", x.count(5), 0);
        due("count(4)", x.count(4), 40);
        due("best()", x.best(), 0);
        due("lost by a move", x.move(0, -2), LOST);
        due("count(4)", x.count(4), 0);
        due("read again", x.read(30), 2);
        x.begin(HillFinder.NONE);
        due("count(4)", x.count(4), 0);
    }

    private static void share() {
        HillFinder x = over(2, 3, 1, 2, 3, 4, 5, 6);
        dueShare(x, 5, 1, 6);
        for (int c : new int[] {-1, 6, 143, 144, Integer.MIN_VALUE, Integer.MAX_VALUE}) {
            dueNoShare(x, c, 0);
            dueNoShare(x, c, 1);
        }
        for (int what : new int[] {-1, 2, Integer.MIN_VALUE, Integer.MAX_VALUE}) {
            dueNoShare(x, 0, what);
        }
        x.meter(0, 2, 1);
        x.begin(2);
        x.move(0, 0);
        // 2 and 1 along x, 1, 2 and 1 along y: of 12 each.
        dueShare(x, 0, 1, 6);
        dueShare(x, 1, 1, 12);
        dueShare(x, 2, 1, 3);
        dueShare(x, 5, 1, 12);
        x.read(1);
        dueShare(x, 0, 1, 1);
        dueShare(x, 2, 0, 1);
        dueNoShare(x, 6, 0);
        due("a call that throws changes nothing", x.count(4) + x.count(3), 2);
    }

    private static void likely() {
        HillFinder x = overLike(3, 3, 5);
        due("of like ones the least", x.likely(), 0);
        x.meter(0, 1, 1);
        x.move(0, 0);
        due("the middle one", x.likely(), 4);
        x.begin(8);
        due("the last one", x.likely(), 8);
        x.move(-1, 0);
        due("of six like ones the least", x.likely(), 3);
        x.begin(8);
        x.meter(0, 2, 1);
        x.move(-1, 0);
        due("the greatest", x.likely(), 7);
    }

    private static void span() {
        HillFinder x = overLike(5, 4, 5);
        int[] whole = {0, 4, 0, 3, 20};
        for (int what = 0; what < 5; what++) {
            due("span(" + what + ")", x.span(what), whole[what]);
        }
        x.move(2, 1);
        int[] part = {2, 4, 1, 3, 9};
        for (int what = 0; what < 5; what++) {
            due("span(" + what + ")", x.span(what), part[what]);
        }
        for (int what : new int[] {-1, 5, Integer.MIN_VALUE, Integer.MAX_VALUE}) {
            due("span(" + what + ")", x.span(what), HillFinder.NONE);
        }
        x.begin(7);
        int[] one = {2, 2, 1, 1, 1};
        for (int what = 0; what < 5; what++) {
            due("span(" + what + ")", x.span(what), one[what]);
        }
        HillFinder corners = over(3, 3, 9, 1, 1, 1, 1, 1, 1, 1, 9);
        corners.read(9);
        due("two cells", corners.span(4), 2);
        due("least x", corners.span(0), 0);
        due("greatest y", corners.span(3), 2);
    }

    private static void best() {
        HillFinder x = over(4, 2, 10, 20, 30, 40, 50, UNTOLD, 70, 80);
        due("no reading", x.best(), 0);
        duePath(x, 0);
        x.meter(5, 2, 1);
        x.read(33);
        due("best()", x.best(), 0);
        duePath(x, 5);
        x.begin(1);
        x.read(23);
        due("begins in one cell", x.best(), 3);
        duePath(x, 1);
        x.move(1, 0);
        x.read(38);
        // By drift to 40: 2 off; without drift to 30: 8 off; by drift to the UNTOLD one: nothing.
        due("to the UNTOLD one", x.best(), 3);
        duePath(x, 1, 5);
        x.move(1, -1);
        x.read(28);
        due("count(4)", x.count(4), 3);
        due("by drift one stays on the UNTOLD one", x.best(), 3);
        duePath(x, 1, 5, 5);
        // The fault goes by the heights of now.
        x.check(1, 60);
        x.check(1, 61);
        x.check(1, 62);
        due("height(1)", x.height(1), 61);
        due("best()", x.best(), 38);
    }

    private static void bestByWays() {
        HillFinder x = overLike(3, 3, 7);
        x.meter(0, 2, 1);
        x.begin(4);
        x.move(0, 0);
        due("best()", x.best(), 0);
        duePath(x, 4, 4);
        x.meter(0, 1, 1);
        due("like ways: the first", x.best(), 0);
        duePath(x, 4, 0);
        // Of two drifts with like fault the one along y alone has 2 ways, the one along x and y 1.
        HillFinder edge = over(3, 3, 5, 5, 9, 9, 9, 9, 9, 9, 9);
        edge.meter(4, 2, 1);
        edge.begin(4);
        edge.move(0, 0);
        edge.read(5);
        due("best()", edge.best(), 0);
        duePath(edge, 4, 1);
        // Cells 0 and 3 are of like fault; from 1, cell 0 is without drift: 9 ways, cell 3 has 3.
        HillFinder y = over(3, 2, 5, 9, 5, 5, 9, 9);
        y.meter(0, 3, 1);
        y.begin(1);
        y.move(-1, 0);
        y.read(5);
        due("best()", y.best(), 0);
        duePath(y, 1, 0);
        y.move(1, 1);
        due("best()", y.best(), 0);
        duePath(y, 1, 0, 4);
        y.meter(0, 1, 1);
        due("best()", y.best(), 0);
        duePath(y, 1, 0, 0);
        // The first one: its beginning counts most.
        HillFinder z = overLike(2, 2, 7);
        z.move(1, 0);
        due("best()", z.best(), 0);
        duePath(z, 0, 1);
        z.move(-1, 1);
        due("best()", z.best(), 0);
        duePath(z, 0, 1, 2);
    }

    private static void noPath() {
        HillFinder x = overLike(2, 2, 7);
        x.meter(0, 1, 1);
        x.begin(0);
        due("move(-1, 0)", x.move(-1, 0), 2);
        due("best()", x.best(), 0);
        duePath(x, 0, 0);
        x.meter(0, 1, 0);
        due("without drift there is no path", x.best(), HillFinder.NONE);
        duePath(x, 0, 0);
        x.meter(0, 3, 1);
        due("best()", x.best(), 0);
        // A flight over the whole map without any way to stay on it that long.
        HillFinder y = overLike(2, 2, 7);
        y.meter(0, 1, 1);
        y.move(1, 0);
        y.move(1, 0);
        due("two moves", y.count(3), 2);
        due("best()", y.best(), 0);
        duePath(y, 0, 0, 0);
        y.meter(0, 1, 0);
        due("best()", y.best(), HillFinder.NONE);
    }

    private static void path() {
        HillFinder x = over(3, 2, 1, 2, 3, 4, 5, 6);
        due("ahead of any best()", x.path(0), HillFinder.NONE);
        x.begin(3);
        for (int i = 0; i < 12; i++) {
            x.move(i % 2 == 0 ? 2 : -2, 0);
        }
        due("still ahead", x.path(0), HillFinder.NONE);
        due("best()", x.best(), 0);
        duePath(x, 3, 5, 3, 5, 3, 5, 3, 5, 3, 5, 3, 5, 3);
        for (int i : new int[] {-1, 13, 14, Integer.MIN_VALUE, Integer.MAX_VALUE}) {
            due("path(" + i + ")", x.path(i), HillFinder.NONE);
        }
        x.begin(0);
        x.move(1, 0);
        due("the latest best() stays", x.path(12), 3);
        put(x, 1, 2, 3, 4);
        x.map(2, 2);
        due("behind another map, too", x.path(1), 5);
        due("best()", x.best(), 0);
        duePath(x, 0);
    }

    private static void twins() {
        HillFinder x = over(3, 2, 10, 20, 10, 20, 30, UNTOLD);
        // 0 and 2, 1 and 3, and cell 5 with each of the five.
        due("without moves", x.twins(), 7);
        put(x, 1, 0);
        // From 0: 10 20, 1: 20 10, 3: 20 30, 4: 30 UNTOLD.
        due("to the right", x.twins(), 0);
        x.meter(5, 1, 0);
        put(x, 1, 0);
        // By no more than 10: 0 and 1 (10, 10), 0 and 3 (10, 10), not 1 and 3 (0, 20), 1 and 4 (10), 3 and 4 (10).
        due("to the right", x.twins(), 4);
        x.meter(4, 1, 0);
        put(x, 1, 0);
        due("by more than 8", x.twins(), 0);
        x.meter(10, 1, 0);
        put(x, -1, 1, 1, -1);
        // From 1 over 3 to 1, and from 2 over 4 to 2: 20 20 20 and 10 30 10.
        due("signs", x.twins(), 1);
        due("the tape is empty then", x.count(7), 0);
        put(x, 2, 0, 1, 0, -1, 0);
        due("the route leaves the map", x.twins(), 0);
        put(x, new int[16]);
        due("eight moves", x.twins(), 15);
        HillFinder large = overLike(12, 12, 1);
        due("all pairs", large.twins(), 144 * 143 / 2);
        put(large, 5, 5, 5, 5, -5, -5, -5, -5);
        due("from four cells", large.twins(), 6);
    }

    private static void dueNoRoute(HillFinder x, int... bytes) {
        put(x, bytes);
        due("twins() of " + bytes.length, x.twins(), HillFinder.NONE);
        due("the tape is empty then", x.count(7), 0);
        due("twin()", x.twin(), 2);
    }

    private static void noTwins() {
        HillFinder x = over(3, 2, 10, 20, 10, 20, 30, 40);
        due("twins()", x.twins(), 2);
        dueNoRoute(x, 1);
        dueNoRoute(x, 0, 0, 0);
        dueNoRoute(x, new int[17]);
        dueNoRoute(x, new int[18]);
        dueNoRoute(x, 6, 0);
        dueNoRoute(x, 0, 6);
        dueNoRoute(x, -6, 0);
        dueNoRoute(x, 0, -6);
        dueNoRoute(x, 0, 0, 127, 0);
        dueNoRoute(x, 0, 0, 0, 128);
        dueNoRoute(x, new int[160]);
    }

    private static void twin() {
        HillFinder x = over(3, 2, 10, 20, 30, 40, 30, 20);
        due("ahead of any", x.twin(), HillFinder.NONE);
        put(x, 1);
        x.twins();
        due("still ahead of any", x.twin(), HillFinder.NONE);
        due("twins()", x.twins(), 2);
        due("1 and 5 come ahead of 2 and 4", x.twin(), 205);
        put(x, 0, 0);
        x.route(1);
        due("route does not count", x.twin(), 205);
        put(x, 2, 0);
        due("twins()", x.twins(), 0);
        due("there was none", x.twin(), HillFinder.NONE);
        x.twins();
        due("twin()", x.twin(), 205);
        put(x, 1, 2, 3, 4);
        x.map(2, 2);
        due("behind another map, too", x.twin(), 205);
        HillFinder last = over(12, 12, java.util.stream.IntStream.range(0, 144).toArray());
        last.check(0, 143);
        last.check(0, 143);
        last.check(0, 143);
        due("height(0)", last.height(0), 143);
        due("twins()", last.twins(), 1);
        due("the last cell is the other one", last.twin(), 143);
    }

    private static void route() {
        HillFinder x = over(3, 3, 1, 1, 1, 1, 1, 1, 2, 1, 3);
        // To the right: 1 1 four times, 2 1, 1 3: 6 pairs. Down: 1 1 three times, 1 2, 1 1, 1 3: 6 pairs (four like ones).
        put(x, 1, 0, 0, 1);
        due("of like ones the first", x.route(2), 0);
        due("the tape is empty then", x.count(7), 0);
        put(x, 1, 0, 0, 1, 2, 2, 0, 2);
        due("2, 2: from one cell alone", x.route(4), 2);
        put(x, 1, 0, 2, 2, -2, -2, 0, 2);
        due("of like ones the first", x.route(4), 1);
        put(x, 1, 0, 0, 1, 0, 0, 1, 1);
        due("two routes of two moves", x.route(2), 0);
        put(x, 0, 0, 0, 0, 1, 0, 0, 1);
        due("two routes of two moves", x.route(2), 1);
        put(x, new int[128]);
        due("eight of eight moves", x.route(8), 0);
        int[] lastTells = new int[128];
        lastTells[127] = 2;
        put(x, lastTells);
        due("the eighth", x.route(8), 7);
        for (int n = 1; n <= 8; n++) {
            due("no byte, route(" + n + ")", x.route(n), 0);
        }
        for (int n : new int[] {0, -1, 9, Integer.MIN_VALUE, Integer.MAX_VALUE}) {
            due("route(" + n + ")", x.route(n), HillFinder.NONE);
            put(x, 1, 0);
            due("route(" + n + ")", x.route(n), HillFinder.NONE);
            due("the tape is empty then", x.count(7), 0);
        }
    }

    private static void dueNoRoutes(HillFinder x, int n, int... bytes) {
        put(x, bytes);
        due("route(" + n + ") of " + bytes.length, x.route(n), HillFinder.NONE);
        due("the tape is empty then", x.count(7), 0);
    }

    private static void noRoutes() {
        HillFinder x = overLike(3, 3, 1);
        dueNoRoutes(x, 2, 1, 0, 0);
        dueNoRoutes(x, 2, 1, 0);
        dueNoRoutes(x, 2, 1, 0, 0, 0, 0, 0);
        dueNoRoutes(x, 3, 1, 0, 0, 0);
        dueNoRoutes(x, 8, new int[8]);
        dueNoRoutes(x, 1, new int[18]);
        dueNoRoutes(x, 8, new int[144]);
        dueNoRoutes(x, 2, 1, 0, 0, 6);
        dueNoRoutes(x, 2, -6, 0, 0, 0);
        dueNoRoutes(x, 1, 1, 0, 0);
    }

    private static void check() {
        HillFinder x = over(2, 2, 100, 50, UNTOLD, 250);
        x.meter(3, 1, 0);
        due("check(0, 103)", x.check(0, 103), 0);
        due("check(0, 97)", x.check(0, 97), 0);
        due("too high", x.check(0, 104), 1);
        due("too high", x.check(0, 120), 1);
        due("at another cell", x.check(1, 40), 1);
        due("mended", x.check(0, 110), 2);
        due("the middle one", x.height(0), 110);
        due("the other cell stays", x.height(1), 50);
        due("count(6)", x.count(6), 1);
        due("too high for the mended one", x.check(0, 120), 1);
        due("too high for the mended one", x.check(0, 114), 1);
        due("one that fits", x.check(0, 110), 0);
        due("too low", x.check(0, 90), 1);
        due("too low", x.check(0, 80), 1);
        due("one that fits", x.check(0, 112), 0);
        due("too low", x.check(0, 90), 1);
        due("too low", x.check(0, 80), 1);
        due("the other way", x.check(0, 130), 1);
        due("too low", x.check(0, 90), 1);
        due("too low", x.check(0, 80), 1);
        due("height(0)", x.height(0), 110);
        due("mended", x.check(0, 70), 2);
        due("the middle one", x.height(0), 80);
        due("an untold one", x.check(2, 0), 2);
        due("height(2)", x.height(2), 0);
        due("count(6)", x.count(6), 3);
        due("it speaks against it", x.check(2, 250), 1);
        due("it speaks against it", x.check(2, 250), 1);
        due("mended", x.check(2, 250), 2);
        due("height(2)", x.height(2), 250);
        for (int[] wrong : new int[][] {{-1, 5}, {4, 5}, {0, -1}, {0, 251}, {Integer.MAX_VALUE, 0}, {0, Integer.MIN_VALUE}}) {
            due("check(" + wrong[0] + ", " + wrong[1] + ")", x.check(wrong[0], wrong[1]), HillFinder.NONE);
        }
        due("count(6)", x.count(6), 4);
    }

    private static void checkBetween() {
        HillFinder x = over(2, 2, 100, 50, 60, 70);
        x.check(0, 101);
        x.check(0, 102);
        due("a wrong one is not between", x.check(0, 251), HillFinder.NONE);
        x.read(50);
        x.begin(HillFinder.NONE);
        due("a reading or a flight is not between", x.check(0, 103), 2);
        due("height(0)", x.height(0), 102);
        x.meter(20, 1, 0);
        due("by the ERR of now", x.check(0, 122), 0);
        due("by the ERR of now", x.check(0, 123), 1);
        x.meter(1, 1, 0);
        due("it has spoken with ERR 20", x.check(0, 105), 1);
        due("mended", x.check(0, 104), 2);
        due("height(0)", x.height(0), 105);
        due("shares stay when a height is mended", x.span(4), 4);
        for (int i = 0; i < 4; i++) {
            int[] orders = {30, 10, 20};
            due("too low", x.check(3, orders[i % 3]), 1);
            due("too low", x.check(3, orders[(i + 1) % 3]), 1);
            due("mended", x.check(3, orders[(i + 2) % 3]), 2);
            due("the middle one in any order", x.height(3), 20);
            x.check(3, 70);
            x.check(3, 70);
            due("too high", x.check(3, 70), 2);
        }
    }

    private static void height() {
        HillFinder x = over(2, 3, 0, 250, UNTOLD, 1, 2, 3);
        int[] heights = {0, 250, -1, 1, 2, 3};
        for (int c = 0; c < heights.length; c++) {
            due("height(" + c + ")", x.height(c), heights[c]);
        }
        for (int c : new int[] {-1, -2, 6, 144, Integer.MIN_VALUE, Integer.MAX_VALUE}) {
            due("height(" + c + ")", x.height(c), -2);
        }
        x.check(2, 77);
        due("height(2)", x.height(2), 77);
        due("read(77)", x.read(77), 1);
    }

    private static void count() {
        HillFinder x = over(3, 4, 1, 1, 1, 1, 1, 1, 1, 1, 1, 1, 1, UNTOLD);
        x.meter(7, 1, 0);
        x.move(5, 0);
        x.move(1, 0);
        x.move(0, 1);
        x.read(2);
        x.read(3);
        x.read(4);
        x.check(11, 3);
        x.feed(1, 2, 3, 4, 5);
        x.end(11);
        int[] counts = {3, 4, 7, 2, 3, 1, 1, 11};
        for (int what = 0; what < counts.length; what++) {
            due("count(" + what + ")", x.count(what), counts[what]);
        }
        for (int what : new int[] {-1, 8, Integer.MIN_VALUE, Integer.MAX_VALUE}) {
            due("count(" + what + ")", x.count(what), HillFinder.NONE);
        }
    }

    private static void next(String name) {
        promise = name;
    }

    private static void firstTen() {
        next("promise 1");
        aNewObject();
        next("promise 2");
        feed();
        next("promise 3");
        end();
        next("promise 4");
        mapIsTold();
        mapIsRefused();
        next("promise 5");
        meter();
        next("promise 6");
        begin();
        next("promise 7");
        move();
        movesAreTwelve();
        next("promise 8");
        read();
        readingsAreForty();
        next("promise 9");
        share();
        next("promise 10");
        likely();
    }

    private static void lastNine() {
        next("promise 11");
        span();
        next("promise 12");
        best();
        bestByWays();
        noPath();
        next("promise 13");
        path();
        next("promise 14");
        twins();
        noTwins();
        next("promise 15");
        twin();
        next("promise 16");
        route();
        noRoutes();
        next("promise 17");
        check();
        checkBetween();
        next("promise 18");
        height();
        next("promise 19");
        count();
    }

    public static void main(String[] args) {
        firstTen();
        lastNine();
        System.out.println("PromiseRuns: " + passed + " answers as due, " + failed + " not");
        if (failed != 0) {
            System.exit(1);
        }
    }
}
