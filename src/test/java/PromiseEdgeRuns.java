import java.math.BigInteger;
import java.util.Arrays;

/** The promises one by one: each sentence that names a bound has a test of its own. */
public final class PromiseEdgeRuns {
    private static final int NONE = Watched.NONE;
    private static final int LOST = Watched.LOST;
    private static final int UNTOLD = Watched.UNTOLD;
    private static final Sheet SHEET = new Sheet("PromiseEdgeRuns");

    // ---- 1. A new object

    private static void newMap() {
        Watched x = new Watched();
        SHEET.due("W", x.count(0), 2);
        SHEET.due("H", x.count(1), 2);
        SHEET.due("HEIGHTS", x.heights(5), "-1 -1 -1 -1 -2");
        SHEET.due("spans", x.spans(), "0 1 0 1 4");
        SHEET.due("LOST", x.count(5), 0);
        SHEET.due("mended", x.count(6), 0);
    }

    private static void newErr() {
        Watched x = new Watched();
        SHEET.due("ERR", x.count(2), 0);
        x.check(0, 100);
        SHEET.due("one above", x.check(0, 101), 1);
        SHEET.due("it", x.check(0, 100), 0);
        SHEET.due("one below", x.check(0, 99), 1);
        x.check(1, 101);
        SHEET.due("TWINS: all pairs but 0 and 1", x.twins(), 5);
    }

    private static void newWeights() {
        Watched x = new Watched();
        x.begin(0);
        SHEET.due("w1 0: a MOVE", x.move(0, 0), 1);
        SHEET.due("another", x.move(1, 1), 1);
        SHEET.due("SHARES", x.parts(4), "0/1 0/1 0/1 1/1");
        // While w1 is 0, w0 makes all SHARES greater alike, and no call tells it.
        Watched y = new Watched();
        y.move(0, 1);
        y.meter(0, 1, 1);
        y.move(-1, 0);
        SHEET.due("SHARES", y.parts(4), "1/3 1/6 1/3 1/6");
    }

    private static void newFlight() {
        Watched x = new Watched();
        SHEET.due("SHARES", x.parts(4), "1/4 1/4 1/4 1/4");
        SHEET.due("LIKELY", x.likely(), 0);
        SHEET.due("MOVES", x.count(3), 0);
        SHEET.due("READINGS", x.count(4), 0);
        SHEET.due("ahead of any best()", x.path(0), NONE);
        SHEET.due("ahead of any twins()", x.twin(), NONE);
        SHEET.due("best", x.bestPath(), "0: 0");
    }

    private static void newTape() {
        SHEET.due("bytes", new Watched().count(7), 0);
        SHEET.due("end(0)", new Watched().end(0), true);
        SHEET.due("end(1)", new Watched().end(1), false);
        SHEET.due("map(2, 2)", new Watched().map(2, 2), false);
        SHEET.due("twins()", new Watched().twins(), 6);
        SHEET.due("route(1)", new Watched().route(1), 0);
    }

    private static void constantNone() {
        SHEET.due("NONE", HillFinder.NONE, -1);
    }

    private static void objectsAreApart() {
        Watched x = Watched.overLike(3, 3, 9);
        x.meter(20, 3, 1);
        x.begin(4);
        x.move(1, 1);
        x.read(9);
        x.best();
        x.twins();
        x.check(0, 50);
        x.check(0, 50);
        x.feed(1, 2, 3, 4, 5);
        String before = x.look();
        Watched y = new Watched();
        SHEET.due("W of another", y.count(0), 2);
        SHEET.due("ERR of another", y.count(2), 0);
        SHEET.due("bytes of another", y.count(7), 0);
        SHEET.due("HEIGHTS of another", y.heights(5), "-1 -1 -1 -1 -2");
        SHEET.due("SHARES of another", y.parts(4), "1/4 1/4 1/4 1/4");
        SHEET.due("path of another", y.path(0), NONE);
        SHEET.due("twin of another", y.twin(), NONE);
        y.put(1, 2, 3, 4).map(2, 2);
        y.check(0, 100);
        SHEET.due("the first stays", x.look(), before);
        SHEET.due("the first's CHECKS", x.check(0, 50), 2);
    }

    private static void aNewObject() {
        SHEET.sentence("1: THE MAP has 2 by 2 CELLS, all UNTOLD", PromiseEdgeRuns::newMap);
        SHEET.sentence("1: ERR 0", PromiseEdgeRuns::newErr);
        SHEET.sentence("1: WEIGHTS 1 and 0", PromiseEdgeRuns::newWeights);
        SHEET.sentence("1: a FLIGHT begins with all CELLS", PromiseEdgeRuns::newFlight);
        SHEET.sentence("1: an empty tape", PromiseEdgeRuns::newTape);
        SHEET.sentence("The public face: NONE = -1", PromiseEdgeRuns::constantNone);
        SHEET.sentence("1: A new object: nothing of another", PromiseEdgeRuns::objectsAreApart);
    }

    // ---- 2. feed and 3. end

    private static void highestByteFirst() {
        Watched x = new Watched();
        x.feed(0x01020304, 0x11121314, 0x21222324, 0x31323334, 0xFA000001);
        x.end(20);
        SHEET.due("map(5, 4)", x.map(5, 4), true);
        SHEET.due("HEIGHTS", x.heights(20), "1 2 3 4 17 18 19 20 33 34 35 36 49 50 51 52 250 0 0 1");
        int[][] numbers = {{-1, UNTOLD, UNTOLD, UNTOLD, UNTOLD}, {0, 0, 0, 0, 0}, {Integer.MAX_VALUE, 127, UNTOLD, UNTOLD, UNTOLD},
            {Integer.MIN_VALUE, 128, 0, 0, 0}, {250, 0, 0, 0, 250}, {1 << 8, 0, 0, 1, 0}, {1 << 16, 0, 1, 0, 0}};
        for (int[] number : numbers) {
            for (int place = 0; place < 5; place++) {
                int[] five = new int[5];
                five[place] = number[0];
                Watched y = new Watched();
                y.feed(five[0], five[1], five[2], five[3], five[4]);
                SHEET.due("map(4, 5)", y.map(4, 5), true);
                for (int k = 0; k < 4; k++) {
                    SHEET.due("byte " + k + " of " + number[0], y.height(4 * place + k), number[k + 1] == UNTOLD ? NONE : number[k + 1]);
                }
            }
        }
    }

    private static void behindTheTape() {
        for (int size = 0; size <= 20; size++) {
            Watched x = new Watched();
            x.feed(0x07070707, 0x07070707, 0x07070707, 0x07070707, 0x07070707);
            x.end(size);
            SHEET.due("behind " + size, x.feed(0x08080808, 0, 0, 0, 0x09090909), size + 20);
            x.end(Math.min(size + 20, 24));
            if (size < 4) {
                continue;
            }
            SHEET.due("map(6, 4)", x.map(6, 4), true);
            SHEET.due("the last of before", x.height(size - 1), 7);
            SHEET.due("the first of these", x.height(size), size == 24 ? -2 : 8);
        }
    }

    private static void hundredAndSixtyAtMost() {
        for (int size = 0; size <= 160; size++) {
            Watched x = new Watched().put(Watched.like(size, 7));
            int due = size <= 140 ? size + 20 : NONE;
            SHEET.due("feed behind " + size, x.feed(1, 2, 3, 4, 5), due);
            SHEET.due("bytes", x.count(7), size <= 140 ? size + 20 : size);
        }
    }

    private static void noneCome() {
        for (int size : new int[] {141, 144, 159, 160}) {
            Watched x = new Watched().put(Watched.like(size, 7));
            SHEET.due("feed behind " + size, x.feed(-1, -1, -1, -1, -1), NONE);
            SHEET.due("end one behind the last", x.end(size + 1), false);
            SHEET.due("bytes", x.count(7), size);
            SHEET.due("end(" + Math.min(144, size) + ")", x.end(Math.min(144, size)), true);
            if (size >= 144) {
                SHEET.due("map(12, 12)", x.map(12, 12), true);
                SHEET.due("the last HEIGHT", x.height(143), 7);
            } else {
                x.feed(0, 0, 0, 0, 0);
                SHEET.due("end(140), then feed", x.end(140), true);
                SHEET.due("feed behind 140", x.feed(0x08000000, 0, 0, 0, 0), 160);
                x.end(144);
                x.map(12, 12);
                SHEET.due("HEIGHT 139", x.height(139), 7);
                SHEET.due("HEIGHT 140", x.height(140), 8);
            }
        }
    }

    private static void firstBytesAlone() {
        for (int size : new int[] {0, 1, 20, 21, 159, 160}) {
            for (int n = -2; n <= size + 2; n++) {
                Watched x = new Watched().put(Watched.like(size, 7));
                boolean has = n >= 0 && n <= size;
                SHEET.due("end(" + n + ") of " + size, x.end(n), has);
                SHEET.due("bytes", x.count(7), has ? n : size);
            }
        }
        Watched x = new Watched().put(1, 2, 3, 4, 5, 6, 7, 8, 9);
        SHEET.due("end(4)", x.end(4), true);
        SHEET.due("end(5): they are gone", x.end(5), false);
        x.map(2, 2);
        SHEET.due("the first four", x.heights(4), "1 2 3 4");
    }

    private static void notSoMany() {
        for (int size : new int[] {0, 1, 160}) {
            Watched x = new Watched().put(Watched.like(size, 7));
            for (int n : Watched.outside(0, size)) {
                if (n >= 0 && n <= size) {
                    throw new IllegalStateException(n + " is not outside");
                }
                SHEET.due("end(" + n + ") of " + size, x.end(n), false);
                SHEET.due("bytes", x.count(7), size);
            }
        }
    }

    private static void feedAndEnd() {
        SHEET.sentence("2: of each number the highest first", PromiseEdgeRuns::highestByteFirst);
        SHEET.sentence("2: Twenty bytes come behind the tape", PromiseEdgeRuns::behindTheTape);
        SHEET.sentence("2: how many it has; NONE, if it would have more than 160", PromiseEdgeRuns::hundredAndSixtyAtMost);
        SHEET.sentence("2: and none come", PromiseEdgeRuns::noneCome);
        SHEET.sentence("3: The tape has its first n bytes alone: true", PromiseEdgeRuns::firstBytesAlone);
        SHEET.sentence("3: false, if it has not so many, or n is below 0", PromiseEdgeRuns::notSoMany);
    }

    // ---- 4. map

    private static void asManyBytesAsCells() {
        int[][] sides = {{2, 2}, {2, 12}, {12, 2}, {5, 3}, {12, 12}};
        for (int[] s : sides) {
            int cells = s[0] * s[1];
            for (int bytes : new int[] {0, 1, cells - 2, cells - 1, cells, cells + 1, cells + 2, 160}) {
                Watched x = new Watched().put(Watched.like(bytes, 7));
                SHEET.due("map(" + s[0] + ", " + s[1] + ") of " + bytes, x.map(s[0], s[1]), bytes == cells);
                SHEET.due("W", x.count(0), bytes == cells ? s[0] : 2);
                SHEET.due("H", x.count(1), bytes == cells ? s[1] : 2);
            }
        }
    }

    private static void tapeIsEmptyThen() {
        Watched x = new Watched().put(1, 2, 3, 4);
        SHEET.due("told", x.map(2, 2), true);
        SHEET.due("bytes", x.count(7), 0);
        SHEET.due("a second time there are none", x.map(2, 2), false);
        x.put(1, 2, 3);
        SHEET.due("too few", x.map(2, 2), false);
        SHEET.due("bytes", x.count(7), 0);
        x.put(1, 2, 3, 251);
        SHEET.due("a wrong one", x.map(2, 2), false);
        SHEET.due("bytes", x.count(7), 0);
        SHEET.due("feed", x.feed(0, 0, 0, 0, 0), 20);
    }

    private static void heightsAndUntoldOnes() {
        Watched x = Watched.over(3, 2, 0, UNTOLD, 250, 1, 249, UNTOLD);
        SHEET.due("HEIGHTS", x.heights(6), "0 -1 250 1 249 -1");
        x.put(UNTOLD, 0, UNTOLD, 250).map(2, 2);
        SHEET.due("HEIGHTS", x.heights(5), "-1 0 -1 250 -2");
        x.put(Watched.like(144, UNTOLD)).map(12, 12);
        SHEET.due("the last HEIGHT", x.height(143), NONE);
        SHEET.due("behind it", x.height(144), -2);
    }

    private static void mapBeginsAFlight() {
        for (int only : new int[] {NONE, 2}) {
            Watched x = Watched.over(2, 2, 10, 20, 30, 40);
            x.meter(20, 3, 1);
            x.begin(only);
            x.move(0, 0);
            x.read(30);
            x.put(1, 2, 3, 4, 5, 6);
            SHEET.due("map(2, 3)", x.map(2, 3), true);
            SHEET.due("SHARES", x.parts(6), "1/6 1/6 1/6 1/6 1/6 1/6");
            SHEET.due("MOVES", x.count(3), 0);
            SHEET.due("READINGS", x.count(4), 0);
            SHEET.due("best", x.bestPath(), "0: 0");
            x.read(6);
            SHEET.due("PATHS begin anywhere", x.bestPath(), "0: 5");
            SHEET.due("ERR stays", x.count(2), 20);
        }
    }

    private static void checksAreForgotten() {
        Watched x = Watched.over(2, 2, 100, 100, UNTOLD, 100);
        x.check(0, 150);
        x.check(0, 150);
        x.check(1, 50);
        x.check(2, 77);
        SHEET.due("mended", x.count(6), 1);
        SHEET.due("LOST", x.move(5, 5), LOST);
        x.put(100, 100, UNTOLD, 100).map(2, 2);
        SHEET.due("mended", x.count(6), 0);
        SHEET.due("LOST", x.count(5), 0);
        SHEET.due("HEIGHTS", x.heights(4), "100 100 -1 100");
        SHEET.due("the first", x.check(0, 150), 1);
        SHEET.due("the second", x.check(0, 150), 1);
        SHEET.due("the third", x.check(0, 150), 2);
        SHEET.due("the first", x.check(1, 50), 1);
        SHEET.due("the second", x.check(1, 50), 1);
        SHEET.due("the third", x.check(1, 50), 2);
        // What is told of a CELL beyond a lesser map does not come back with a larger one.
        Watched y = Watched.overLike(3, 3, 100);
        y.check(8, 150);
        y.check(8, 150);
        y.put(1, 2, 3, 4).map(2, 2);
        y.put(Watched.like(9, 100)).map(3, 3);
        SHEET.due("the first", y.check(8, 150), 1);
    }

    private static void fromLargestToLeast() {
        Watched x = Watched.overLike(12, 12, 7);
        x.meter(0, 3, 1);
        x.move(0, 0);
        x.put(7, 7, 7, 7);
        SHEET.due("map(2, 2)", x.map(2, 2), true);
        SHEET.due("spans", x.spans(), "0 1 0 1 4");
        SHEET.due("SHARES", x.parts(4), "1/4 1/4 1/4 1/4");
        SHEET.due("CELL 4", x.share(4, 0), Watched.THROWN);
        SHEET.due("LIKELY", x.likely(), 0);
        SHEET.due("a READING", x.read(7), 4);
        SHEET.due("a MOVE", x.move(0, 1), 4);
        SHEET.due("begin(4)", x.begin(4), false);
        SHEET.due("TWINS", x.twins(), 6);
        SHEET.due("check(4, 7)", x.check(4, 7), NONE);
        x.put(Watched.like(144, 8));
        SHEET.due("map(12, 12)", x.map(12, 12), true);
        SHEET.due("spans", x.spans(), "0 11 0 11 144");
    }

    private static void map() {
        SHEET.sentence("4: the tape's bytes are W H HEIGHTS", PromiseEdgeRuns::asManyBytesAsCells);
        SHEET.sentence("4: (empty then, here and below)", PromiseEdgeRuns::tapeIsEmptyThen);
        SHEET.sentence("4: (255: UNTOLD), CELL by CELL", PromiseEdgeRuns::heightsAndUntoldOnes);
        SHEET.sentence("4: a FLIGHT begins with all", PromiseEdgeRuns::mapBeginsAFlight);
        SHEET.sentence("4: what CHECKS told is forgotten", PromiseEdgeRuns::checksAreForgotten);
        SHEET.sentence("4: THE MAP: the largest and the least behind one another", PromiseEdgeRuns::fromLargestToLeast);
    }

    // ---- 5. meter and 6. begin

    private static void meterSetsThree() {
        Watched x = Watched.overLike(3, 3, 9);
        for (int err : new int[] {0, 20}) {
            for (int w0 = 1; w0 <= 3; w0++) {
                for (int w1 = 0; w1 <= 1; w1++) {
                    SHEET.due("meter(" + err + ", " + w0 + ", " + w1 + ")", x.meter(err, w0, w1), true);
                    SHEET.due("ERR", x.count(2), err);
                    x.begin(4);
                    x.move(0, 0);
                    int all = (w0 + 2 * w1) * (w0 + 2 * w1);
                    SHEET.due("CELLS", x.span(4), w1 == 0 ? 1 : 9);
                    SHEET.due("the middle one", x.share(4, 0) * all, w0 * w0 * x.share(4, 1));
                }
            }
        }
    }

    private static void sharesStayBehindMeter() {
        Watched x = Watched.over(3, 2, 10, 20, 30, 40, 50, 60);
        x.meter(10, 3, 1);
        x.move(1, 0);
        x.read(30);
        String parts = x.parts(6);
        SHEET.due("meter(0, 1, 0)", x.meter(0, 1, 0), true);
        SHEET.due("SHARES", x.parts(6), parts);
        SHEET.due("MOVES", x.count(3), 1);
        SHEET.due("READINGS", x.count(4), 1);
        SHEET.due("LOST", x.count(5), 0);
        SHEET.due("by the ERR of now", x.read(40), 1);
    }

    private static void meterWithOneWrong() {
        int[][] wrong = {{-1, 2, 1}, {21, 2, 1}, {5, 0, 1}, {5, 4, 1}, {5, 2, -1}, {5, 2, 2}, {-1, 0, -1}, {21, 4, 2},
            {256, 2, 1}, {5, 258, 1}, {5, 2, 256}, {Integer.MIN_VALUE, 2, 1}, {Integer.MAX_VALUE, 2, 1},
            {5, Integer.MIN_VALUE, 1}, {5, Integer.MAX_VALUE, 1}, {5, 2, Integer.MIN_VALUE}, {5, 2, Integer.MAX_VALUE}};
        for (int[] three : wrong) {
            Watched x = Watched.overLike(3, 3, 9);
            x.meter(4, 3, 1);
            SHEET.due("meter of " + Arrays.toString(three), x.meter(three[0], three[1], three[2]), false);
            SHEET.due("ERR", x.count(2), 4);
            x.begin(4);
            SHEET.due("w1", x.move(0, 0), 9);
            SHEET.due("w0", x.part(4), "9/25");
        }
    }

    private static void beginWithEachCell() {
        for (int[] s : new int[][] {{2, 2}, {3, 2}, {12, 12}}) {
            Watched x = Watched.overLike(s[0], s[1], 9);
            int cells = s[0] * s[1];
            for (int c = 0; c < cells; c++) {
                SHEET.due("begin(" + c + ")", x.begin(c), true);
                SHEET.due("LIKELY", x.likely(), c);
            }
            SHEET.due("CELLS", x.span(4), 1);
            SHEET.due("begin(NONE)", x.begin(NONE), true);
            SHEET.due("CELLS", x.span(4), cells);
        }
    }

    private static void noSuchBeginning() {
        for (int[] s : new int[][] {{2, 2}, {3, 2}, {12, 12}}) {
            Watched x = Watched.overLike(s[0], s[1], 9);
            x.begin(1);
            x.read(9);
            for (int c : Watched.outside(-1, s[0] * s[1] - 1)) {
                SHEET.due("begin(" + c + ")", x.begin(c), false);
                SHEET.due("LIKELY", x.likely(), 1);
                SHEET.due("READINGS", x.count(4), 1);
            }
        }
    }

    private static void beginCountsFromNaught() {
        Watched x = Watched.overLike(2, 2, 9);
        for (int c : new int[] {NONE, 0, 3}) {
            for (int i = 0; i < 12; i++) {
                x.move(0, 0);
            }
            for (int i = 0; i < 40; i++) {
                x.read(9);
            }
            SHEET.due("MOVES", x.count(3), 12);
            SHEET.due("READINGS", x.count(4), 40);
            SHEET.due("begin(" + c + ")", x.begin(c), true);
            SHEET.due("MOVES", x.count(3), 0);
            SHEET.due("READINGS", x.count(4), 0);
            SHEET.due("a MOVE", x.move(0, 0), c == NONE ? 4 : 1);
            SHEET.due("a READING", x.read(9), c == NONE ? 4 : 1);
            x.begin(c);
        }
    }

    private static void meterAndBegin() {
        SHEET.sentence("5: ERR and WEIGHTS are others", PromiseEdgeRuns::meterSetsThree);
        SHEET.sentence("5: (what SHARES there are stays)", PromiseEdgeRuns::sharesStayBehindMeter);
        SHEET.sentence("5: true; false, if they are not as told", PromiseEdgeRuns::meterWithOneWrong);
        SHEET.sentence("6: A FLIGHT begins with CELL c alone, or (NONE) with all", PromiseEdgeRuns::beginWithEachCell);
        SHEET.sentence("6: true; false: no such one", PromiseEdgeRuns::noSuchBeginning);
        SHEET.sentence("6: A FLIGHT begins: MOVES and READINGS from 0", PromiseEdgeRuns::beginCountsFromNaught);
    }

    // ---- 7. move and 8. read

    private static void twelveMoves(Watched x) {
        for (int i = 1; i <= 12; i++) {
            SHEET.due("MOVE " + i, x.move(0, 0), 4);
            SHEET.due("MOVES", x.count(3), i);
        }
        SHEET.due("MOVE 13", x.move(0, 0), NONE);
        SHEET.due("MOVE 13, by which one would be LOST", x.move(5, 5), NONE);
        SHEET.due("MOVE 13, not as told", x.move(6, 6), NONE);
        SHEET.due("MOVES", x.count(3), 12);
        SHEET.due("LOST", x.count(5), 0);
    }

    private static void noneBehindTwelveMoves() {
        Watched x = Watched.overLike(2, 2, 9);
        twelveMoves(x);
        SHEET.due("a READING is no MOVE", x.read(9), 4);
        SHEET.due("MOVE 13", x.move(0, 0), NONE);
        x.begin(NONE);
        twelveMoves(x);
        x.put(9, 9, 9, 9).map(2, 2);
        twelveMoves(x);
    }

    private static void refusedMovesDontCount() {
        Watched x = Watched.overLike(2, 2, 9);
        for (int i = 0; i < 20; i++) {
            SHEET.due("move(6, 0)", x.move(6, 0), NONE);
        }
        SHEET.due("MOVES", x.count(3), 0);
        twelveMoves(x);
    }

    private static void moveAnswersHolders() {
        Watched x = Watched.overLike(12, 12, 9);
        x.meter(0, 1, 1);
        SHEET.due("from all", x.move(0, 0), 144);
        x.begin(65);
        int[] due = {9, 25, 49, 81, 121, 144, 144};
        for (int holders : due) {
            SHEET.due("move(0, 0)", x.move(0, 0), holders);
        }
        x.begin(143);
        SHEET.due("one CELL is the least", x.move(1, 1), 1);
        SHEET.due("LOST is -2", x.move(2, 0), -2);
    }

    private static void fortyReadings(Watched x, int have) {
        for (int i = have + 1; i <= 40; i++) {
            SHEET.due("READING " + i, x.read(9), 4);
            SHEET.due("READINGS", x.count(4), i);
        }
        SHEET.due("READING 41", x.read(9), NONE);
        SHEET.due("READING 41, by which one would be LOST", x.read(99), NONE);
        SHEET.due("READING 41, not as told", x.read(251), NONE);
        SHEET.due("READINGS", x.count(4), 40);
        SHEET.due("CELLS", x.span(4), 4);
    }

    private static void noneBehindFortyReadings() {
        Watched x = Watched.overLike(2, 2, 9);
        fortyReadings(x, 0);
        SHEET.due("a MOVE is no READING", x.move(0, 0), 4);
        SHEET.due("READING 41", x.read(9), NONE);
        x.begin(NONE);
        fortyReadings(x, 0);
        x.put(9, 9, 9, 9).map(2, 2);
        fortyReadings(x, 0);
    }

    private static void fortyOfTheRow() {
        Watched x = Watched.overLike(2, 2, 9);
        fortyReadings(x, 0);
        SHEET.due("LOST by a MOVE: it begins again", x.move(5, 5), LOST);
        fortyReadings(x, 0);
        x.begin(NONE);
        for (int i = 0; i < 39; i++) {
            x.read(9);
        }
        SHEET.due("LOST by the fortieth READING", x.read(99), LOST);
        SHEET.due("it alone is in THE ROW", x.count(4), 1);
        fortyReadings(x, 1);
    }

    private static void refusedReadingsDontCount() {
        Watched x = Watched.overLike(2, 2, 9);
        for (int i = 0; i < 20; i++) {
            SHEET.due("read(251)", x.read(251), NONE);
            SHEET.due("read(-1)", x.read(-1), NONE);
        }
        fortyReadings(x, 0);
    }

    private static void readAnswersHolders() {
        Watched x = Watched.over(2, 2, 10, 20, 30, 40);
        x.meter(15, 1, 0);
        SHEET.due("all FIT", x.read(25), 4);
        SHEET.due("three FIT", x.read(15), 3);
        SHEET.due("two FIT", x.read(14), 2);
        SHEET.due("one FITS", x.read(0), 1);
        SHEET.due("LOST is -2", x.read(100), -2);
    }

    private static void moveAndRead() {
        SHEET.sentence("7: NONE: there were 12", PromiseEdgeRuns::noneBehindTwelveMoves);
        SHEET.sentence("7: or it is not as told: it is no MOVE", PromiseEdgeRuns::refusedMovesDontCount);
        SHEET.sentence("7: how many CELLS have a SHARE then; -2: one was LOST", PromiseEdgeRuns::moveAnswersHolders);
        SHEET.sentence("8: NONE: THE ROW has 40 READINGS", PromiseEdgeRuns::noneBehindFortyReadings);
        SHEET.sentence("8: THE ROW has 40 READINGS: behind LOST", PromiseEdgeRuns::fortyOfTheRow);
        SHEET.sentence("8: it is not as told: it is no READING", PromiseEdgeRuns::refusedReadingsDontCount);
        SHEET.sentence("8: how many CELLS have a SHARE then; -2: one was LOST", PromiseEdgeRuns::readAnswersHolders);
    }

    // ---- 9. share to 11. span

    private static void fractionsAreShort() {
        Watched x = Watched.overLike(2, 2, 9);
        SHEET.due("4 of 16 would be longer", x.parts(4), "1/4 1/4 1/4 1/4");
        x.meter(0, 3, 0);
        x.move(0, 0);
        SHEET.due("9 of 36 would be longer", x.parts(4), "1/4 1/4 1/4 1/4");
        x.meter(0, 3, 1);
        x.begin(0);
        x.move(0, 0);
        SHEET.due("9, 3, 3 and 1 of 16", x.parts(4), "9/16 3/16 3/16 1/16");
        x.meter(0, 2, 1);
        x.begin(0);
        x.move(0, 0);
        SHEET.due("4, 2, 2 and 1 of 9", x.parts(4), "4/9 2/9 2/9 1/9");
        x.begin(3);
        SHEET.due("the whole", x.parts(4), "0/1 0/1 0/1 1/1");
    }

    private static void naughtIsNaughtByOne() {
        Watched x = Watched.overLike(12, 12, 9);
        x.meter(0, 3, 1);
        x.begin(0);
        x.move(0, 0);
        x.move(0, 0);
        SHEET.due("the last CELL", x.part(143), "0/1");
        SHEET.due("the next one to those with a SHARE", x.part(3), "0/1");
        SHEET.due("one with a SHARE", x.share(2, 0) > 0, true);
    }

    /** The greatest SHARES that there can be, told by large numbers. */
    private static void greatestShares() {
        Watched x = Watched.overLike(12, 12, 9);
        x.meter(0, 3, 1);
        BigInteger[] line = new BigInteger[12];
        Arrays.fill(line, BigInteger.ONE);
        for (int i = 0; i < 12; i++) {
            SHEET.due("MOVE", x.move(0, 0), 144);
            BigInteger[] next = new BigInteger[12];
            for (int k = 0; k < 12; k++) {
                BigInteger sides = (k > 0 ? line[k - 1] : BigInteger.ZERO).add(k < 11 ? line[k + 1] : BigInteger.ZERO);
                next[k] = line[k].multiply(BigInteger.valueOf(3)).add(sides);
            }
            line = next;
        }
        BigInteger all = Arrays.stream(line).reduce(BigInteger.ZERO, BigInteger::add).pow(2);
        for (int c = 0; c < 144; c++) {
            BigInteger share = line[c % 12].multiply(line[c / 12]);
            BigInteger divisor = share.gcd(all);
            SHEET.due("share of " + c, x.part(c), share.divide(divisor) + "/" + all.divide(divisor));
        }
        SHEET.due("LIKELY", x.likely(), 65);
    }

    private static void noSuchCell() {
        for (int[] s : new int[][] {{2, 2}, {3, 2}, {12, 12}}) {
            Watched x = Watched.overLike(s[0], s[1], 9);
            int cells = s[0] * s[1];
            for (int what = 0; what <= 1; what++) {
                for (int c : Watched.outside(0, cells - 1)) {
                    SHEET.due("share(" + c + ", " + what + ")", x.share(c, what), Watched.THROWN);
                }
                SHEET.due("share(0, " + what + ")", x.share(0, what), what == 0 ? 1 : cells);
                SHEET.due("share of the last", x.share(cells - 1, what), what == 0 ? 1 : cells);
            }
        }
    }

    private static void anotherWhat() {
        Watched x = Watched.overLike(3, 2, 9);
        x.begin(5);
        for (int what : Watched.outside(0, 1)) {
            SHEET.due("share(5, " + what + ")", x.share(5, what), Watched.THROWN);
            SHEET.due("share(0, " + what + ")", x.share(0, what), Watched.THROWN);
            SHEET.due("share(6, " + what + ")", x.share(6, what), Watched.THROWN);
        }
    }

    private static void likelyAtTheEdges() {
        Watched x = Watched.overLike(12, 12, 9);
        SHEET.due("all", x.likely(), 0);
        x.begin(143);
        SHEET.due("the last CELL", x.likely(), 143);
        x.begin(0);
        SHEET.due("the first CELL", x.likely(), 0);
        x.move(5, 5);
        SHEET.due("it went on", x.likely(), 65);
        x.move(-5, 5);
        SHEET.due("it went on", x.likely(), 120);
        SHEET.due("LOST", x.move(0, 5), LOST);
        SHEET.due("all again", x.likely(), 0);
    }

    private static void spanOfTheMap() {
        for (int[] s : new int[][] {{2, 2}, {2, 12}, {12, 2}, {12, 12}}) {
            Watched x = Watched.overLike(s[0], s[1], 9);
            String all = "0 " + (s[0] - 1) + " 0 " + (s[1] - 1) + " " + s[0] * s[1];
            SHEET.due("all", x.spans(), all);
            x.begin(0);
            SHEET.due("the first", x.spans(), "0 0 0 0 1");
            x.begin(s[0] * s[1] - 1);
            SHEET.due("the last", x.spans(), (s[0] - 1) + " " + (s[0] - 1) + " " + (s[1] - 1) + " " + (s[1] - 1) + " 1");
            x.begin(s[0] - 1);
            SHEET.due("at the right above", x.spans(), (s[0] - 1) + " " + (s[0] - 1) + " 0 0 1");
        }
        Watched y = Watched.over(3, 3, 1, 9, 1, 1, 1, 9, 1, 1, 1);
        y.read(9);
        SHEET.due("1 and 5", y.spans(), "1 2 0 1 2");
    }

    private static void spanOfAnotherWhat() {
        Watched x = Watched.overLike(3, 2, 9);
        for (int what : Watched.outside(0, 4)) {
            SHEET.due("span(" + what + ")", x.span(what), NONE);
        }
    }

    private static void shareToSpan() {
        SHEET.sentence("9: as a fraction without a divisor in common", PromiseEdgeRuns::fractionsAreShort);
        SHEET.sentence("9: (0 is 0 by 1)", PromiseEdgeRuns::naughtIsNaughtByOne);
        SHEET.sentence("9: What part of all SHARES CELL c has: the greatest", PromiseEdgeRuns::greatestShares);
        SHEET.sentence("9: NoSuchElementException: no such CELL", PromiseEdgeRuns::noSuchCell);
        SHEET.sentence("9: NoSuchElementException: another what", PromiseEdgeRuns::anotherWhat);
        SHEET.sentence("10: LIKELY", PromiseEdgeRuns::likelyAtTheEdges);
        SHEET.sentence("11: The least and greatest x and y; 4 how many there are", PromiseEdgeRuns::spanOfTheMap);
        SHEET.sentence("11: NONE for another what", PromiseEdgeRuns::spanOfAnotherWhat);
    }

    // ---- 12. best and 13. path

    private static void faultOfTheBestPath() {
        Watched x = Watched.over(2, 2, 0, 0, 0, 0);
        SHEET.due("no READING", x.best(), 0);
        SHEET.due("one that FITS none", x.read(250), LOST);
        SHEET.due("by 250", x.best(), 250);
        x.meter(20, 1, 0);
        x.begin(NONE);
        for (int i = 1; i <= 40; i++) {
            x.read(20);
            SHEET.due(i + " READINGS", x.best(), 20 * i);
        }
        x.read(20);
        SHEET.due("behind the refused one", x.best(), 800);
    }

    private static void noneIfThereIsNoPath() {
        Watched x = Watched.overLike(2, 2, 9);
        x.meter(0, 1, 1);
        x.begin(0);
        x.move(-1, 0);
        SHEET.due("by drift", x.bestPath(), "0: 0 0");
        x.meter(0, 1, 0);
        SHEET.due("without drift", x.best(), NONE);
        x.meter(0, 2, 1);
        SHEET.due("by drift again", x.best(), 0);
        x.begin(NONE);
        x.move(2, 0);
        x.meter(0, 3, 0);
        SHEET.due("from any CELL", x.best(), NONE);
        x.begin(NONE);
        SHEET.due("without a MOVE there is one", x.best(), 0);
    }

    private static void pathIsAheadOfAny() {
        Watched x = Watched.overLike(2, 2, 9);
        x.meter(0, 1, 1);
        for (int i = -1; i <= 13; i++) {
            SHEET.due("path(" + i + ")", x.path(i), NONE);
        }
        x.begin(0);
        x.move(-1, 0);
        x.meter(0, 1, 0);
        SHEET.due("best()", x.best(), NONE);
        SHEET.due("still ahead of any", x.path(0), NONE);
    }

    private static void pathFromFirstToLast() {
        for (int moves = 0; moves <= 12; moves++) {
            Watched x = Watched.overLike(3, 2, 9);
            x.begin(1);
            for (int i = 0; i < moves; i++) {
                x.move(0, i % 2 == 0 ? 1 : -1);
            }
            x.best();
            for (int i = 0; i <= moves; i++) {
                SHEET.due("path(" + i + ")", x.path(i), i % 2 == 0 ? 1 : 4);
            }
            for (int i : Watched.outside(0, moves)) {
                SHEET.due("path(" + i + ") of " + (moves + 1), x.path(i), NONE);
            }
        }
    }

    private static void pathOfTheLatest() {
        Watched x = Watched.overLike(3, 2, 9);
        x.begin(2);
        for (int i = 0; i < 12; i++) {
            x.move(i % 2 == 0 ? -2 : 2, 0);
        }
        x.best();
        SHEET.due("path(12)", x.path(12), 2);
        x.begin(4);
        SHEET.due("ahead of the next best()", x.path(12), 2);
        x.best();
        SHEET.due("a shorter one", x.path(0), 4);
        for (int i = 1; i <= 12; i++) {
            SHEET.due("path(" + i + ") is none then", x.path(i), NONE);
        }
        x.meter(0, 1, 1);
        x.begin(0);
        x.move(-1, 0);
        x.meter(0, 1, 0);
        SHEET.due("best()", x.best(), NONE);
        SHEET.due("that was not NONE", x.path(0), 4);
        SHEET.due("that was not NONE", x.path(1), NONE);
    }

    private static void bestAndPath() {
        SHEET.sentence("12: FAULT of the BEST PATH", PromiseEdgeRuns::faultOfTheBestPath);
        SHEET.sentence("12: NONE: there is no PATH", PromiseEdgeRuns::noneIfThereIsNoPath);
        SHEET.sentence("13: or ahead of any", PromiseEdgeRuns::pathIsAheadOfAny);
        SHEET.sentence("13: CELL i of the PATH (0 the first); NONE: there is none such", PromiseEdgeRuns::pathFromFirstToLast);
        SHEET.sentence("13: of the latest best() that was not NONE", PromiseEdgeRuns::pathOfTheLatest);
    }

    // ---- 14. twins and 15. twin

    private static void bytesWithTheirSigns() {
        Watched cells = Watched.overLike(12, 12, 9);
        SHEET.due("-1, 2", cells.put(-1, 2).twins(), 110 * 109 / 2);
        SHEET.due("its first pair", cells.twin(), 200 + 2);
        for (int place = 0; place < 6; place++) {
            Watched x = Watched.overLike(2, 2, 9);
            for (int value = 0; value <= 255; value++) {
                if (value == 100 || value == 200) {
                    x = Watched.overLike(2, 2, 9);
                }
                int[] route = new int[6];
                route[place] = value;
                int step = (byte) value;
                int due = step < -5 || step > 5 ? NONE : step == 0 ? 6 : step == 1 || step == -1 ? 1 : 0;
                SHEET.due(value + " at " + place, x.put(route).twins(), due);
            }
        }
    }

    private static void twoBytesAMove() {
        for (int size = 0; size <= 160; size++) {
            Watched x = Watched.overLike(2, 2, 9);
            SHEET.due("twins() of " + size, x.put(new int[size]).twins(), size % 2 == 0 && size <= 16 ? 6 : NONE);
            SHEET.due("the tape is empty then", x.count(7), 0);
        }
    }

    private static void howManyPairs() {
        Watched x = Watched.overLike(12, 12, 9);
        SHEET.due("all pairs", x.twins(), 10296);
        SHEET.due("from one CELL alone", x.put(5, 5, 5, 5, 1, 1).twins(), 0);
        SHEET.due("from two", x.put(5, 5, 5, 5, 1, 0).twins(), 1);
        SHEET.due("from none", x.put(5, 5, 5, 5, 2, 2).twins(), 0);
        Watched y = Watched.over(2, 2, 1, 2, 3, 4);
        SHEET.due("none alike", y.twins(), 0);
        y.put(1, 1, 2, 2).map(2, 2);
        SHEET.due("two pairs", y.twins(), 2);
        y.put(1, 1, 1, 2).map(2, 2);
        SHEET.due("three pairs", y.twins(), 3);
    }

    private static void twinIsAheadOfAny() {
        Watched x = Watched.overLike(2, 2, 9);
        SHEET.due("ahead of any", x.twin(), NONE);
        SHEET.due("a tape that is no ROUTE", x.put(0).twins(), NONE);
        SHEET.due("still ahead of any", x.twin(), NONE);
        SHEET.due("route(1)", x.route(1), 0);
        SHEET.due("still ahead of any", x.twin(), NONE);
        SHEET.due("twins()", x.twins(), 6);
        SHEET.due("twin()", x.twin(), 1);
    }

    private static void twinOfTheLatest() {
        Watched x = Watched.over(3, 2, 10, 20, 30, 40, 20, 30);
        SHEET.due("twins()", x.twins(), 2);
        SHEET.due("1 and 4", x.twin(), 204);
        SHEET.due("NONE", x.put(6, 0).twins(), NONE);
        SHEET.due("that was not NONE", x.twin(), 204);
        SHEET.due("a ROUTE with another first pair", x.put(-1, 0).route(1), 0);
        SHEET.due("it is no twins()", x.twin(), 204);
        SHEET.due("NONE behind it", x.put(6, 0).twins(), NONE);
        SHEET.due("that was not NONE", x.twin(), 204);
        SHEET.due("1 2 and 4 5", x.put(1, 0).twins(), 1);
        SHEET.due("1 and 4", x.twin(), 204);
        SHEET.due("2 1 and 5 4", x.put(-1, 0).twins(), 1);
        SHEET.due("2 and 5", x.twin(), 405);
        SHEET.due("no TWINS", x.put(2, 0).twins(), 0);
        SHEET.due("there was none", x.twin(), NONE);
        SHEET.due("NONE", x.put(0).twins(), NONE);
        SHEET.due("there was none", x.twin(), NONE);
    }

    private static void lesserCellAndTheOther() {
        int[] heights = new int[144];
        for (int c = 0; c < 144; c++) {
            heights[c] = c;
        }
        int[][] pairs = {{0, 1}, {0, 143}, {142, 143}, {1, 2}, {11, 12}, {99, 100}, {143, 142}, {143, 0}};
        for (int[] pair : pairs) {
            int[] told = heights.clone();
            told[pair[0]] = 200;
            told[pair[1]] = 200;
            Watched x = Watched.over(12, 12, told);
            SHEET.due("twins()", x.twins(), 1);
            SHEET.due("of " + pair[0] + " and " + pair[1], x.twin(),
                200 * Math.min(pair[0], pair[1]) + Math.max(pair[0], pair[1]));
        }
    }

    private static void firstPair() {
        Watched x = Watched.over(3, 2, 3, 1, 2, 2, 1, 1);
        SHEET.due("1 4, 1 5, 4 5 and 2 3", x.twins(), 4);
        SHEET.due("the lesser one is least, then the other one", x.twin(), 204);
        Watched y = Watched.over(3, 2, 1, 2, 2, 2, 2, 1);
        y.twins();
        SHEET.due("0 and 5 come ahead of 1 and 2", y.twin(), 5);
    }

    private static void twinsAndTwin() {
        SHEET.sentence("14: two bytes a MOVE, with their signs", PromiseEdgeRuns::bytesWithTheirSigns);
        SHEET.sentence("14: The tape is a ROUTE; NONE: it is none", PromiseEdgeRuns::twoBytesAMove);
        SHEET.sentence("14: how many pairs of TWINS", PromiseEdgeRuns::howManyPairs);
        SHEET.sentence("15: NONE: there was none, or ahead of any", PromiseEdgeRuns::twinIsAheadOfAny);
        SHEET.sentence("15: of the latest twins() that was not NONE", PromiseEdgeRuns::twinOfTheLatest);
        SHEET.sentence("15: 200 times the lesser CELL and the other one", PromiseEdgeRuns::lesserCellAndTheOther);
        SHEET.sentence("15: (The lesser one is least, then the other one.)", PromiseEdgeRuns::firstPair);
    }

    // ---- 16. route

    private static void oneToEightRoutes() {
        for (int n = 1; n <= 8; n++) {
            int[] routes = new int[2 * n];
            routes[2 * n - 1] = 1;
            Watched x = Watched.overLike(2, 2, 9);
            SHEET.due("the last of " + n, x.put(routes).route(n), n - 1);
            SHEET.due("the tape is empty then", x.count(7), 0);
        }
        Watched x = Watched.overLike(2, 2, 9);
        for (int n : Watched.outside(1, 8)) {
            SHEET.due("route(" + n + ") of 144", x.put(new int[144]).route(n), NONE);
            SHEET.due("the tape is empty then", x.count(7), 0);
        }
        SHEET.due("nine ROUTES of one MOVE", x.put(new int[18]).route(9), NONE);
        SHEET.due("ten ROUTES of eight MOVES", x.put(new int[160]).route(10), NONE);
    }

    private static void likeLengths() {
        for (int size = 0; size <= 160; size++) {
            Watched x = Watched.overLike(2, 2, 9);
            for (int n = 1; n <= 8; n++) {
                boolean are = size % n == 0 && size / n % 2 == 0 && size / n <= 16;
                SHEET.due("route(" + n + ") of " + size, x.put(new int[size]).route(n), are ? 0 : NONE);
                SHEET.due("the tape is empty then", x.count(7), 0);
            }
        }
    }

    private static void noByte() {
        Watched x = new Watched();
        for (int n = 1; n <= 8; n++) {
            SHEET.due("route(" + n + ")", x.route(n), 0);
        }
        for (int n : Watched.outside(1, 8)) {
            SHEET.due("route(" + n + ")", x.route(n), NONE);
        }
    }

    private static void fewestPairsOfTwins() {
        // By 0, 0: 6 pairs, by 1, 0: 1 pair, by 2, 0: none.
        for (int one = 0; one < 8; one++) {
            Watched x = Watched.overLike(2, 2, 9);
            for (int other = one + 1; other < 8; other++) {
                int[] routes = new int[16];
                routes[2 * one] = 1;
                routes[2 * other] = 1;
                SHEET.due("of " + one + " and " + other + " the first", x.put(routes).route(8), one);
                routes[2 * other] = 2;
                SHEET.due("the fewest", x.put(routes).route(8), other);
            }
        }
    }

    private static void eightOfEightMoves() {
        for (int best = 0; best < 8; best++) {
            int[] routes = new int[128];
            routes[16 * best + 15] = -1;
            Watched x = Watched.overLike(2, 2, 9);
            SHEET.due("ROUTE " + best + " alone moves, at its end", x.put(routes).route(8), best);
        }
        Watched x = Watched.overLike(2, 2, 9);
        SHEET.due("eight of nine MOVES", x.put(new int[144]).route(8), NONE);
        SHEET.due("one of nine MOVES", x.put(new int[18]).route(1), NONE);
        SHEET.due("one of eight MOVES", x.put(new int[16]).route(1), 0);
    }

    private static void oneOfThemIsNone() {
        for (int place = 0; place < 16; place++) {
            Watched x = Watched.overLike(2, 2, 9);
            for (int value : new int[] {6, -6, 127, -128}) {
                int[] routes = new int[16];
                routes[place] = value;
                SHEET.due(value + " at " + place, x.put(routes).route(8), NONE);
                SHEET.due("the tape is empty then", x.count(7), 0);
            }
            for (int value : new int[] {5, -5}) {
                int[] routes = new int[16];
                routes[place] = value;
                SHEET.due(value + " at " + place, x.put(routes).route(8), place / 2);
            }
        }
    }

    private static void route() {
        SHEET.sentence("16: n ROUTES (1 to 8)", PromiseEdgeRuns::oneToEightRoutes);
        SHEET.sentence("16: of like lengths one behind another; NONE: they are none", PromiseEdgeRuns::likeLengths);
        SHEET.sentence("16: (no byte: ROUTES without MOVES)", PromiseEdgeRuns::noByte);
        SHEET.sentence("16: the one with the fewest pairs, of like ones the first", PromiseEdgeRuns::fewestPairsOfTwins);
        SHEET.sentence("16: the largest tape of ROUTES, and one more MOVE each", PromiseEdgeRuns::eightOfEightMoves);
        SHEET.sentence("16: NONE: they are none, if one of them is none", PromiseEdgeRuns::oneOfThemIsNone);
    }

    // ---- 17. check to 19. count

    private static void checkAtEachCell() {
        for (int[] s : new int[][] {{2, 2}, {3, 2}, {12, 12}}) {
            int cells = s[0] * s[1];
            Watched x = Watched.overLike(s[0], s[1], 100);
            for (int c = -2; c <= cells + 1; c++) {
                SHEET.due("check(" + c + ", 100)", x.check(c, 100), c >= 0 && c < cells ? 0 : NONE);
                SHEET.due("check(" + c + ", 99)", x.check(c, 99), c >= 0 && c < cells ? 1 : NONE);
            }
            for (int c : Watched.outside(0, cells - 1)) {
                SHEET.due("check(" + c + ", 100)", x.check(c, 100), NONE);
            }
        }
    }

    private static void checkByEachReading() {
        for (int v = -3; v <= 258; v++) {
            Watched x = Watched.over(2, 2, 0, 250, UNTOLD, 100);
            boolean told = v >= 0 && v <= 250;
            SHEET.due("check(0, " + v + ")", x.check(0, v), !told ? NONE : v == 0 ? 0 : 1);
            SHEET.due("check(1, " + v + ")", x.check(1, v), !told ? NONE : v == 250 ? 0 : 1);
            SHEET.due("check(2, " + v + ")", x.check(2, v), told ? 2 : NONE);
            SHEET.due("HEIGHT", x.height(2), told ? v : NONE);
        }
        for (int v : Watched.outside(0, 250)) {
            Watched x = Watched.over(2, 2, 0, 250, UNTOLD, 100);
            for (int c = 0; c < 4; c++) {
                SHEET.due("check(" + c + ", " + v + ")", x.check(c, v), NONE);
            }
            SHEET.due("HEIGHTS", x.heights(4), "0 250 -1 100");
        }
    }

    private static void checkAnswers() {
        Watched x = Watched.over(2, 2, 100, UNTOLD, 100, 100);
        SHEET.due("it FITS", x.check(0, 100), 0);
        SHEET.due("it SPEAKS AGAINST", x.check(0, 110), 1);
        SHEET.due("it SPEAKS AGAINST", x.check(0, 111), 1);
        SHEET.due("mended by it", x.check(0, 112), 2);
        SHEET.due("it FITS what is mended", x.check(0, 111), 0);
        SHEET.due("UNTOLD before", x.check(1, 0), 2);
        SHEET.due("it FITS what is told now", x.check(1, 0), 0);
        SHEET.due("mended", x.count(6), 2);
        SHEET.due("SHARES stay", x.parts(4), "1/4 1/4 1/4 1/4");
        SHEET.due("a CHECK is no READING", x.count(4), 0);
    }

    private static void heightOfEachCell() {
        for (int[] s : new int[][] {{2, 2}, {3, 2}, {12, 12}}) {
            int cells = s[0] * s[1];
            int[] heights = new int[cells];
            for (int c = 0; c < cells; c++) {
                heights[c] = c % 3 == 0 ? UNTOLD : c % 3 == 1 ? 0 : 250;
            }
            Watched x = Watched.over(s[0], s[1], heights);
            for (int c = 0; c < cells; c++) {
                SHEET.due("height(" + c + ")", x.height(c), heights[c] == UNTOLD ? NONE : heights[c]);
            }
            for (int c : Watched.outside(0, cells - 1)) {
                SHEET.due("height(" + c + ")", x.height(c), -2);
            }
        }
    }

    private static void countsAtTheirBounds() {
        Watched x = Watched.overLike(2, 12, 9);
        SHEET.due("W", x.count(0), 2);
        SHEET.due("H", x.count(1), 12);
        x.put(Watched.like(24, 9)).map(12, 2);
        SHEET.due("W", x.count(0), 12);
        SHEET.due("H", x.count(1), 2);
        x.meter(20, 1, 0);
        SHEET.due("ERR", x.count(2), 20);
        for (int i = 0; i < 14; i++) {
            SHEET.due("MOVES", x.count(3), Math.min(12, i));
            x.move(0, 0);
        }
        for (int i = 0; i < 42; i++) {
            SHEET.due("READINGS", x.count(4), Math.min(40, i));
            x.read(9);
        }
        x.put(Watched.like(160, 0));
        SHEET.due("bytes", x.count(7), 160);
        x.end(159);
        SHEET.due("bytes", x.count(7), 159);
    }

    private static void countsOfLost() {
        Watched x = Watched.overLike(2, 2, 9);
        for (int i = 1; i <= 30; i++) {
            x.move(5, 5);
            SHEET.due("LOST by MOVES", x.count(5), i);
        }
        for (int i = 31; i <= 60; i++) {
            x.read(100);
            SHEET.due("LOST by READINGS", x.count(5), i);
        }
        x.begin(0);
        x.begin(NONE);
        x.map(2, 2);
        SHEET.due("behind begin and a refused map", x.count(5), 60);
        x.put(9, 9, 9, 9).map(2, 2);
        SHEET.due("since THE MAP was told", x.count(5), 0);
    }

    private static void countsOfMended() {
        Watched x = Watched.over(2, 2, 9, UNTOLD, UNTOLD, UNTOLD);
        for (int c = 1; c < 4; c++) {
            x.check(c, 9);
            SHEET.due("UNTOLD ones, too", x.count(6), c);
        }
        for (int i = 4; i <= 40; i++) {
            int v = i % 2 == 0 ? 200 : 50;
            x.check(i % 4 / 2, v);
            x.check(i % 4 / 2, v);
            SHEET.due("ahead of the third", x.count(6), i - 1);
            x.check(i % 4 / 2, v);
            SHEET.due("mended", x.count(6), i);
        }
        x.begin(0);
        x.map(2, 2);
        SHEET.due("behind begin and a refused map", x.count(6), 40);
        x.put(9, 9, 9, 9).map(2, 2);
        SHEET.due("since then", x.count(6), 0);
    }

    private static void countOfAnotherWhat() {
        Watched x = new Watched();
        for (int what : Watched.outside(0, 7)) {
            SHEET.due("count(" + what + ")", x.count(what), NONE);
        }
    }

    private static void theLastCall() {
        Watched x = new Watched();
        while (x.calls() < Watched.MOST_CALLS - 1) {
            x.move(5, 5);
        }
        SHEET.due("the 512th call", x.count(5), 511);
        Watched y = new Watched();
        while (y.calls() < Watched.MOST_CALLS - 2) {
            y.feed(1, 2, 3, 4, 5);
        }
        SHEET.due("the 511th call", y.end(4), true);
        SHEET.due("the 512th call", y.map(2, 2), true);
    }

    private static void checkToCount() {
        SHEET.sentence("17: A CHECK at CELL c; NONE: no such ones", PromiseEdgeRuns::checkAtEachCell);
        SHEET.sentence("17: a READING; NONE: no such ones", PromiseEdgeRuns::checkByEachReading);
        SHEET.sentence("17: 0 it FITS, 1 it SPEAKS AGAINST, 2 mended (UNTOLD before: 2, too)", PromiseEdgeRuns::checkAnswers);
        SHEET.sentence("18: HEIGHT of CELL c; NONE: UNTOLD; -2: no such CELL", PromiseEdgeRuns::heightOfEachCell);
        SHEET.sentence("19: 0 W, 1 H, 2 ERR, 3 MOVES, 4 READINGS, 7 bytes", PromiseEdgeRuns::countsAtTheirBounds);
        SHEET.sentence("19: 5 how often one was LOST since THE MAP was told", PromiseEdgeRuns::countsOfLost);
        SHEET.sentence("19: 6 how many HEIGHTS were mended since then", PromiseEdgeRuns::countsOfMended);
        SHEET.sentence("19: NONE for another what", PromiseEdgeRuns::countOfAnotherWhat);
        SHEET.sentence("An object is used for at most 512 calls", PromiseEdgeRuns::theLastCall);
    }

    public static void main(String[] args) {
        aNewObject();
        feedAndEnd();
        map();
        meterAndBegin();
        moveAndRead();
        shareToSpan();
        bestAndPath();
        twinsAndTwin();
        route();
        checkToCount();
        SHEET.end();
    }
}
