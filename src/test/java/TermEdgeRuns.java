/** The terms of the document: each sentence that names a bound has a test of its own. */
public final class TermEdgeRuns {
    private static final int NONE = Watched.NONE;
    private static final int LOST = Watched.LOST;
    private static final int UNTOLD = Watched.UNTOLD;
    private static final Sheet SHEET = new Sheet("TermEdgeRuns");

    // ---- 1. THE MAP

    private static void sidesAreTwoToTwelve() {
        for (int w = -1; w <= 14; w++) {
            for (int h = -1; h <= 14; h++) {
                int cells = w * h;
                if (cells < 0 || cells > 160) {
                    continue;
                }
                Watched x = new Watched().put(Watched.like(cells, 7));
                boolean told = w >= 2 && w <= 12 && h >= 2 && h <= 12;
                SHEET.due("map(" + w + ", " + h + ")", x.map(w, h), told);
                SHEET.due("W", x.count(0), told ? w : 2);
                SHEET.due("H", x.count(1), told ? h : 2);
                SHEET.due("CELLS", x.span(4), told ? cells : 4);
                SHEET.due("the last CELL", x.height((told ? cells : 4) - 1), told ? 7 : NONE);
                SHEET.due("behind the last CELL", x.height(told ? cells : 4), -2);
            }
        }
    }

    private static void dueNoMap(int w, int h, int bytes) {
        Watched x = new Watched().put(Watched.like(bytes, 7));
        SHEET.due("map(" + w + ", " + h + ") of " + bytes + " bytes", x.map(w, h), false);
        SHEET.due("W", x.count(0), 2);
        SHEET.due("H", x.count(1), 2);
        SHEET.due("height(0)", x.height(0), NONE);
    }

    private static void sidesFarOutside() {
        for (int side : Watched.outside(2, 12)) {
            for (int bytes : new int[] {0, 4, 24, 144, 160}) {
                dueNoMap(side, 2, bytes);
                dueNoMap(2, side, bytes);
                dueNoMap(side, side, bytes);
            }
        }
        // W times H wraps round to as many bytes as there are.
        dueNoMap(1 << 16, 1 << 16, 0);
        dueNoMap(Integer.MIN_VALUE, 2, 0);
        dueNoMap(Integer.MIN_VALUE + 2, 2, 4);
        dueNoMap(2, Integer.MIN_VALUE + 2, 4);
        dueNoMap((1 << 30) + 1, 4, 4);
        dueNoMap(4, (1 << 30) + 1, 4);
        dueNoMap(-2, -2, 4);
        dueNoMap(-12, -12, 144);
    }

    private static void cellNumbers(int w, int h) {
        int[] heights = new int[w * h];
        for (int c = 0; c < heights.length; c++) {
            heights[c] = 100 + c;
        }
        Watched x = Watched.over(w, h, heights);
        for (int c = 0; c < w * h; c++) {
            x.begin(c);
            SHEET.due("CELL " + c + " of " + w + " by " + h, x.spans(),
                c % w + " " + c % w + " " + c / w + " " + c / w + " 1");
            SHEET.due("HEIGHT of CELL " + c, x.height(c), 100 + c);
        }
    }

    private static void cellsHaveNumbers() {
        cellNumbers(2, 12);
        cellNumbers(12, 2);
        cellNumbers(3, 5);
        cellNumbers(5, 3);
        cellNumbers(4, 4);
    }

    private static void heightsOfTheMap() {
        for (int place = 0; place < 4; place++) {
            for (int value = 0; value <= 255; value++) {
                int[] heights = {9, 9, 9, 9};
                heights[place] = value;
                Watched x = new Watched().put(heights);
                boolean told = value <= 250 || value == UNTOLD;
                SHEET.due("map with " + value + " at " + place, x.map(2, 2), told);
                SHEET.due("height(" + place + ")", x.height(place), value <= 250 ? value : NONE);
            }
        }
    }

    private static void errIsToTwenty() {
        for (int err = -3; err <= 23; err++) {
            Watched x = new Watched();
            x.meter(4, 1, 0);
            boolean told = err >= 0 && err <= 20;
            SHEET.due("meter(" + err + ", 1, 0)", x.meter(err, 1, 0), told);
            SHEET.due("ERR", x.count(2), told ? err : 4);
        }
        for (int err : Watched.outside(0, 20)) {
            Watched x = new Watched();
            SHEET.due("meter(" + err + ", 1, 0)", x.meter(err, 1, 0), false);
            SHEET.due("ERR", x.count(2), 0);
        }
    }

    /** What the cells of 3 by 3 have behind a move by nothing from the middle. */
    private static String drifted(Watched x) {
        x.begin(4);
        x.move(0, 0);
        return x.part(4) + " " + x.part(1) + " " + x.part(5) + " " + x.part(8);
    }

    private static void weightForNoDrift() {
        String[] parts = {"1/9 1/9 1/9 1/9", "1/4 1/8 1/8 1/16", "9/25 3/25 3/25 1/25"};
        Watched x = Watched.overLike(3, 3, 9);
        for (int w0 = 1; w0 <= 3; w0++) {
            SHEET.due("meter(0, " + w0 + ", 1)", x.meter(0, w0, 1), true);
            SHEET.due("w0 " + w0, drifted(x), parts[w0 - 1]);
        }
        for (int w0 : Watched.outside(1, 3)) {
            SHEET.due("meter(0, " + w0 + ", 1)", x.meter(0, w0, 1), false);
        }
        SHEET.due("w0 is 3 still", drifted(x), parts[2]);
    }

    private static void weightForOneCellOff() {
        Watched x = Watched.overLike(3, 3, 9);
        SHEET.due("meter(0, 1, 1)", x.meter(0, 1, 1), true);
        SHEET.due("w1 1", drifted(x), "1/9 1/9 1/9 1/9");
        for (int w1 : Watched.outside(0, 1)) {
            SHEET.due("meter(0, 1, " + w1 + ")", x.meter(0, 1, w1), false);
        }
        SHEET.due("w1 is 1 still", drifted(x), "1/9 1/9 1/9 1/9");
        SHEET.due("meter(0, 1, 0)", x.meter(0, 1, 0), true);
        SHEET.due("w1 0", drifted(x), "1/1 0/1 0/1 0/1");
    }

    private static void readingsAreToTwoHundredAndFifty() {
        Watched x = new Watched();
        for (int v = -3; v <= 30; v++) {
            SHEET.due("read(" + v + ")", x.read(v), v < 0 ? NONE : 4);
        }
        x.begin(NONE);
        for (int v = 225; v <= 257; v++) {
            SHEET.due("read(" + v + ")", x.read(v), v > 250 ? NONE : 4);
        }
        SHEET.due("count(4)", x.count(4), 26);
        for (int v : Watched.outside(0, 250)) {
            SHEET.due("read(" + v + ")", x.read(v), NONE);
        }
        SHEET.due("count(4)", x.count(4), 26);
    }

    private static void untoldFitsEach() {
        for (int err : new int[] {0, 20}) {
            for (int v = 0; v <= 250; v += 10) {
                Watched x = Watched.over(2, 2, UNTOLD, UNTOLD, v, (v + 100) % 250);
                x.meter(err, 1, 0);
                SHEET.due("read(" + v + ") with two UNTOLD", x.read(v), 3);
                SHEET.due("an UNTOLD one", x.part(0), "1/3");
                SHEET.due("the far one", x.part(3), "0/1");
            }
        }
    }

    private static void fits(int height, int err, int v, boolean fitting) {
        int far = height > 125 ? 0 : 250;
        Watched x = Watched.over(2, 2, far, height, far, far);
        x.meter(err, 1, 0);
        SHEET.due("read(" + v + ") at HEIGHT " + height + ", ERR " + err, x.read(v), fitting ? 1 : LOST);
        SHEET.due("LIKELY", x.likely(), fitting ? 1 : 0);
        SHEET.due("CELLS with a SHARE", x.span(4), fitting ? 1 : 4);
    }

    private static void fitsByErrAtMost() {
        for (int err = 0; err <= 20; err++) {
            for (int height : new int[] {40, 100, 150, 210}) {
                fits(height, err, height, true);
                fits(height, err, height - err, true);
                fits(height, err, height + err, true);
                fits(height, err, height - err - 1, false);
                fits(height, err, height + err + 1, false);
            }
            fits(0, err, err, true);
            fits(0, err, err + 1, false);
            fits(250, err, 250 - err, true);
            fits(250, err, 249 - err, false);
        }
    }

    private static void theMap() {
        SHEET.sentence("THE MAP has W by H CELLS (2 to 12 each)", TermEdgeRuns::sidesAreTwoToTwelve);
        SHEET.sentence("2 to 12 each: far outside, and where W H wraps round", TermEdgeRuns::sidesFarOutside);
        SHEET.sentence("CELL x, y has the number W y + x", TermEdgeRuns::cellsHaveNumbers);
        SHEET.sentence("a HEIGHT 0 to 250, or is UNTOLD", TermEdgeRuns::heightsOfTheMap);
        SHEET.sentence("ERR: 0 to 20", TermEdgeRuns::errIsToTwenty);
        SHEET.sentence("w0 (1 to 3) for no drift", TermEdgeRuns::weightForNoDrift);
        SHEET.sentence("w1 (0 or 1) for one CELL off either way", TermEdgeRuns::weightForOneCellOff);
        SHEET.sentence("A READING v (0 to 250)", TermEdgeRuns::readingsAreToTwoHundredAndFifty);
        SHEET.sentence("FITS a CELL that is UNTOLD", TermEdgeRuns::untoldFitsEach);
        SHEET.sentence("or whose HEIGHT differs from v by no more than ERR", TermEdgeRuns::fitsByErrAtMost);
    }

    // ---- 2. A FLIGHT

    private static void shareOneOfEach() {
        for (int[] sides : new int[][] {{2, 2}, {3, 2}, {2, 12}, {12, 12}}) {
            int cells = sides[0] * sides[1];
            Watched x = Watched.overLike(sides[0], sides[1], 9);
            SHEET.due("CELLS", x.span(4), cells);
            SHEET.due("the first CELL", x.part(0), "1/" + cells);
            SHEET.due("the last CELL", x.part(cells - 1), "1/" + cells);
        }
    }

    private static void shareOfOneAlone() {
        Watched x = Watched.overLike(4, 3, 9);
        for (int c = 0; c < 12; c++) {
            x.begin(c);
            SHEET.due("CELLS", x.span(4), 1);
            SHEET.due("share of " + c, x.part(c), "1/1");
            SHEET.due("share of another", x.part((c + 1) % 12), "0/1");
        }
    }

    private static void movesAreToFive() {
        Watched x = Watched.overLike(12, 12, 9);
        for (int dy = -5; dy <= 5; dy++) {
            for (int dx = -5; dx <= 5; dx++) {
                x.begin(12 * 6 + 5);
                SHEET.due("move(" + dx + ", " + dy + ")", x.move(dx, dy), 1);
                SHEET.due("LIKELY", x.likely(), 12 * (6 + dy) + 5 + dx);
            }
        }
        SHEET.due("MOVES", x.count(3), 1);
    }

    /** Maps that are narrow or low: rows and columns must not be taken for one another. */
    private static void movesOverNarrowMaps() {
        for (int[] s : new int[][] {{2, 12}, {12, 2}, {3, 7}, {7, 3}}) {
            int cells = s[0] * s[1];
            Watched x = Watched.overLike(s[0], s[1], 9);
            x.meter(0, 1, 1);
            SHEET.due("all stay", x.move(0, 0), cells);
            SHEET.due("spans", x.spans(), "0 " + (s[0] - 1) + " 0 " + (s[1] - 1) + " " + cells);
            x.begin(cells - 1);
            SHEET.due("from the last CELL", x.move(0, 0), 4);
            SHEET.due("spans", x.spans(), (s[0] - 2) + " " + (s[0] - 1) + " " + (s[1] - 2) + " " + (s[1] - 1) + " 4");
            SHEET.due("best", x.bestPath(), "0: " + (cells - 1) + " " + (cells - 2 - s[0]));
            SHEET.due("all are TWINS", x.twins(), pairsOf(cells));
            SHEET.due("along the map", x.put(s[0] > 5 ? 5 : 1, s[1] > 5 ? 5 : 1).twins(),
                pairsOf((s[0] > 5 ? s[0] - 5 : s[0] - 1) * (s[1] > 5 ? s[1] - 5 : s[1] - 1)));
        }
    }

    private static void movesBeyondFive() {
        Watched x = Watched.overLike(12, 12, 9);
        x.begin(12 * 6 + 5);
        for (int far : Watched.outside(-5, 5)) {
            for (int near : new int[] {-5, 0, 5}) {
                SHEET.due("move(" + far + ", " + near + ")", x.move(far, near), NONE);
                SHEET.due("move(" + near + ", " + far + ")", x.move(near, far), NONE);
            }
            SHEET.due("move(" + far + ", " + far + ")", x.move(far, far), NONE);
        }
        SHEET.due("MOVES", x.count(3), 0);
        SHEET.due("LIKELY", x.likely(), 12 * 6 + 5);
        SHEET.due("LOST", x.count(5), 0);
    }

    private static void sharesSpread() {
        Watched x = Watched.overLike(5, 5, 9);
        x.meter(0, 3, 1);
        x.begin(12);
        SHEET.due("move(1, -1)", x.move(1, -1), 9);
        SHEET.due("spans", x.spans(), "2 4 0 2 9");
        String corner = "1/25";
        String beside = "3/25";
        String no = "0/1";
        String[] due = {no, no, corner, beside, corner, no, no, beside, "9/25", beside, no, no, corner, beside, corner};
        SHEET.due("SHARES of the upper rows", x.parts(15), String.join(" ", due));
        // Along x each column has 3 and 1. Along y the upper row has 1 of itself, the lower one 3 of that and 1 of itself.
        Watched y = Watched.overLike(2, 2, 9);
        y.meter(0, 3, 1);
        y.move(0, 1);
        SHEET.due("SHARES add up", y.parts(4), "1/10 1/10 2/5 2/5");
    }

    private static int cut(int least, int greatest, int side) {
        return Math.max(0, Math.min(side - 1, greatest) - Math.max(0, least) + 1);
    }

    /** From cell c of 3 by 2 with drift: what of the nine targets is on the map. */
    private static void beyondTheMap(Watched x, int c, int dx, int dy) {
        int left = c % 3 + dx - 1;
        int top = c / 3 + dy - 1;
        int columns = cut(left, left + 2, 3);
        int rows = cut(top, top + 2, 2);
        boolean gone = columns == 0 || rows == 0;
        x.begin(c);
        SHEET.due("from " + c + " move(" + dx + ", " + dy + ")", x.move(dx, dy), gone ? LOST : columns * rows);
        SHEET.due("least x", x.span(0), gone ? 0 : Math.max(0, left));
        SHEET.due("least y", x.span(2), gone ? 0 : Math.max(0, top));
        SHEET.due("CELLS", x.span(4), gone ? 6 : columns * rows);
    }

    private static void beyondTheMapIsGone() {
        for (int c = 0; c < 6; c++) {
            for (int dy = -5; dy <= 5; dy++) {
                Watched x = Watched.overLike(3, 2, 9);
                x.meter(0, 2, 1);
                for (int dx = -5; dx <= 5; dx++) {
                    beyondTheMap(x, c, dx, dy);
                }
            }
        }
    }

    private static void lostBehindAMove() {
        Watched x = Watched.over(3, 2, 1, 2, 3, 4, 5, 6);
        x.begin(2);
        SHEET.due("a MOVE beyond the right edge", x.move(1, 0), LOST);
        SHEET.due("all have SHARE 1", x.parts(6), "1/6 1/6 1/6 1/6 1/6 1/6");
        x.begin(3);
        SHEET.due("beyond the left edge", x.move(-1, 0), LOST);
        x.begin(1);
        SHEET.due("beyond the upper edge", x.move(0, -1), LOST);
        x.begin(4);
        SHEET.due("beyond the lower edge", x.move(0, 1), LOST);
        SHEET.due("all", x.move(3, 0), LOST);
        SHEET.due("all have SHARE 1", x.parts(6), "1/6 1/6 1/6 1/6 1/6 1/6");
        SHEET.due("LOST", x.count(5), 5);
        SHEET.due("one CELL stays", x.move(2, 1), 1);
        SHEET.due("LOST", x.count(5), 5);
    }

    private static void lostBehindAReading() {
        Watched x = Watched.over(3, 2, 10, 20, UNTOLD, 40, 30, 30);
        x.begin(0);
        SHEET.due("read(30)", x.read(30), LOST);
        SHEET.due("those that it FITS", x.parts(6), "0/1 0/1 1/3 0/1 1/3 1/3");
        Watched y = Watched.over(3, 2, 10, 20, 50, 40, 30, 30);
        y.begin(0);
        SHEET.due("read(20)", y.read(20), LOST);
        SHEET.due("one CELL alone", y.parts(6), "0/1 1/1 0/1 0/1 0/1 0/1");
        SHEET.due("read(21)", y.read(21), LOST);
        SHEET.due("it FITS none: all", y.parts(6), "1/6 1/6 1/6 1/6 1/6 1/6");
        SHEET.due("LOST", y.count(5), 2);
        SHEET.due("read(50) from all", y.read(50), 1);
        SHEET.due("LOST", y.count(5), 2);
    }

    private static void movesFromNaughtWhereLost() {
        Watched x = Watched.overLike(2, 2, 9);
        for (int i = 0; i < 12; i++) {
            x.move(0, 0);
        }
        SHEET.due("MOVES", x.count(3), 12);
        SHEET.due("LOST by a READING", x.read(50), LOST);
        SHEET.due("MOVES", x.count(3), 0);
        for (int i = 1; i <= 11; i++) {
            SHEET.due("MOVE " + i, x.move(0, 0), 4);
        }
        SHEET.due("the twelfth: LOST", x.move(2, 0), LOST);
        SHEET.due("MOVES", x.count(3), 0);
        for (int i = 1; i <= 12; i++) {
            SHEET.due("MOVE " + i, x.move(0, 0), 4);
        }
        SHEET.due("the thirteenth", x.move(0, 0), NONE);
        SHEET.due("MOVES", x.count(3), 12);
    }

    private static void likelyIsTheLeast() {
        Watched x = Watched.over(3, 2, 1, 7, 7, 1, 7, 7);
        SHEET.due("all alike", x.likely(), 0);
        x.read(7);
        SHEET.due("four alike", x.likely(), 1);
        x.meter(0, 3, 1);
        x.begin(5);
        x.move(-1, 0);
        SHEET.due("the greatest is no least number", x.likely(), 4);
        x.begin(5);
        x.move(0, 1);
        SHEET.due("beyond the lower edge", x.likely(), 5);
        x.meter(0, 1, 1);
        x.begin(5);
        x.move(0, 0);
        SHEET.due("of 1, 2, 4 and 5", x.likely(), 1);
    }

    private static void aFlight() {
        SHEET.sentence("A FLIGHT begins with SHARE 1 of each CELL", TermEdgeRuns::shareOneOfEach);
        SHEET.sentence("(or of one alone)", TermEdgeRuns::shareOfOneAlone);
        SHEET.sentence("A MOVE by dx, dy (-5 to 5 each", TermEdgeRuns::movesAreToFive);
        SHEET.sentence("-5 to 5 each: beyond", TermEdgeRuns::movesBeyondFive);
        SHEET.sentence("over a MAP of 2 by 12 and of 12 by 2", TermEdgeRuns::movesOverNarrowMaps);
        SHEET.sentence("for a and b from -1 to 1 each, times the WEIGHT of a and that of b", TermEdgeRuns::sharesSpread);
        SHEET.sentence("what goes beyond THE MAP is gone", TermEdgeRuns::beyondTheMapIsGone);
        SHEET.sentence("LOST behind a MOVE: then all CELLS have SHARE 1", TermEdgeRuns::lostBehindAMove);
        SHEET.sentence("behind a READING: those that it FITS, if there are any, else all", TermEdgeRuns::lostBehindAReading);
        SHEET.sentence("the FLIGHT's MOVES are counted from 0 again", TermEdgeRuns::movesFromNaughtWhereLost);
        SHEET.sentence("LIKELY: the greatest SHARE, of like ones the least", TermEdgeRuns::likelyIsTheLeast);
    }

    // ---- 3. THE ROW

    private static void rowSinceTheFlightBegan() {
        Watched x = Watched.over(2, 2, 10, 20, 30, 30);
        x.meter(5, 1, 0);
        x.read(12);
        x.move(1, 0);
        x.read(23);
        SHEET.due("best", x.bestPath(), "5: 0 1");
        x.begin(NONE);
        SHEET.due("READINGS", x.count(4), 0);
        SHEET.due("an empty ROW", x.bestPath(), "0: 0");
        x.read(31);
        SHEET.due("a ROW of one READING", x.bestPath(), "1: 2");
        x.put(1, 2, 3, 4).map(2, 2);
        SHEET.due("behind map", x.bestPath(), "0: 0");
    }

    private static void rowSinceOneWasLost() {
        Watched x = Watched.over(2, 2, 10, 20, 30, 34);
        x.meter(5, 1, 0);
        x.read(12);
        x.move(1, 0);
        SHEET.due("LOST by a READING", x.read(37), LOST);
        SHEET.due("it is in THE ROW", x.count(4), 1);
        SHEET.due("best", x.bestPath(), "3: 3");
        SHEET.due("LOST by a MOVE", x.move(1, 0), LOST);
        SHEET.due("it is not", x.count(3) + x.count(4), 0);
        SHEET.due("best", x.bestPath(), "0: 0");
        x.move(0, 1);
        x.read(36);
        SHEET.due("best", x.bestPath(), "2: 1 3");
        SHEET.due("LOST the last time", x.read(100), LOST);
        SHEET.due("best", x.bestPath(), "66: 3");
    }

    private static void pathsHaveACellMoreThanMoves() {
        Watched x = Watched.overLike(3, 2, 9);
        StringBuilder due = new StringBuilder("0: 0");
        for (int moves = 0; moves <= 12; moves++) {
            if (moves > 0) {
                x.move(moves % 2 == 1 ? 1 : -1, 0);
                due.append(moves % 2 == 1 ? " 1" : " 0");
            }
            SHEET.due("behind " + moves + " MOVES", x.bestPath(), due.toString());
        }
    }

    private static void wrapsRound(int dx, int dy, String due, int... heights) {
        Watched x = Watched.over(3, heights.length / 3, heights);
        x.meter(20, 1, 0);
        x.read(10);
        x.move(dx, dy);
        x.read(10);
        SHEET.due("over the edge by " + dx + ", " + dy, x.bestPath(), due);
    }

    private static void pathsStayOnTheMap() {
        // Over the edge and round, the path would meet the two cells of height 10 and have no fault.
        wrapsRound(1, 0, "20: 1 2", 30, 30, 10, 10, 30, 30);
        wrapsRound(-1, 0, "20: 1 0", 10, 30, 30, 30, 30, 10);
        wrapsRound(0, 1, "20: 2 5", 30, 30, 10, 30, 30, 30, 30, 30, 10);
        wrapsRound(0, -1, "20: 5 2", 30, 30, 10, 30, 30, 30, 30, 30, 10);
        Watched x = Watched.overLike(2, 2, 9);
        x.meter(0, 1, 1);
        x.begin(0);
        x.move(-1, 0);
        x.move(-1, 0);
        x.move(2, 0);
        SHEET.due("not over the left edge and back", x.bestPath(), "0: 0 0 0 1");
    }

    private static void pathsDriftWithAWeight() {
        Watched x = Watched.over(4, 2, 30, 20, 10, 0, 30, 20, 10, 0);
        x.meter(20, 2, 1);
        x.begin(0);
        x.move(1, 0);
        x.read(0);
        SHEET.due("one CELL off, not two", x.bestPath(), "10: 0 2");
        x.meter(20, 2, 0);
        SHEET.due("with w1 0 none", x.bestPath(), "20: 0 1");
        x.begin(4);
        x.meter(20, 2, 1);
        x.move(0, -3);
        SHEET.due("LOST: all", x.span(4), 8);
        x.begin(4);
        x.move(0, -2);
        x.meter(20, 1, 0);
        SHEET.due("there is no PATH", x.best(), NONE);
    }

    private static void pathsBeginThere() {
        Watched x = Watched.over(3, 2, 10, 20, 30, 40, 50, 60);
        x.meter(20, 1, 0);
        for (int c = 0; c < 6; c++) {
            x.begin(c);
            SHEET.due("with CELL " + c, x.bestPath(), "0: " + c);
            x.read(10 * c + 10 + (c < 3 ? 20 : -20));
            SHEET.due("with CELL " + c, x.bestPath(), "20: " + c);
        }
        x.begin(0);
        SHEET.due("LOST by a READING", x.read(53), LOST);
        SHEET.due("not behind LOST", x.bestPath(), "3: 4");
        x.begin(5);
        SHEET.due("LOST by a MOVE", x.move(1, 0), LOST);
        x.read(22);
        SHEET.due("not behind LOST", x.bestPath(), "2: 1");
        x.begin(2);
        x.begin(NONE);
        x.read(22);
        SHEET.due("not behind begin(NONE)", x.bestPath(), "2: 1");
    }

    private static void faultIsOfAllReadings() {
        Watched x = new Watched();
        for (int i = 0; i < 40; i++) {
            x.read(i % 2 == 0 ? 0 : 250);
        }
        SHEET.due("UNTOLD: 0", x.bestPath(), "0: 0");
        for (int c = 0; c < 4; c++) {
            x.check(c, 250);
        }
        SHEET.due("twenty READINGS by 250 each", x.bestPath(), "5000: 0");
        Watched y = Watched.overLike(2, 2, 0);
        for (int i = 0; i < 40; i++) {
            y.read(0);
        }
        for (int i = 0; i < 12; i++) {
            y.check(i % 4, 250);
        }
        SHEET.due("forty by 250 each: the greatest FAULT", y.bestPath(), "10000: 0");
        y.check(3, 1);
        y.check(3, 1);
        y.check(3, 1);
        SHEET.due("forty by 1 each", y.bestPath(), "40: 3");
    }

    private static void faultIsWhereOneWasThen() {
        Watched x = Watched.over(4, 2, 10, 20, 30, 40, UNTOLD, 60, 70, 80);
        x.meter(20, 1, 0);
        x.begin(0);
        x.read(11);
        x.read(8);
        x.move(1, 0);
        x.move(1, 0);
        x.read(34);
        x.move(-2, 1);
        x.read(99);
        SHEET.due("1 and 2, nothing, 4, UNTOLD", x.bestPath(), "7: 0 1 2 4");
    }

    private static void bestHasTheLeastFault() {
        // From 4 without drift to 4 (9 WAYS), by drift along x to 3 (3 WAYS), by both to 0 (1 WAY).
        Watched x = Watched.over(3, 3, 10, 30, 30, 12, 11, 30, 30, 30, 30);
        x.meter(20, 3, 1);
        x.begin(4);
        x.move(0, 0);
        x.read(10);
        SHEET.due("the least FAULT, of the fewest WAYS", x.bestPath(), "0: 4 0");
        x.read(11);
        SHEET.due("like FAULT of 0 and 4: the most WAYS", x.bestPath(), "1: 4 4");
        x.meter(20, 1, 1);
        SHEET.due("like WAYS too: the first", x.bestPath(), "1: 4 0");
    }

    /** A map of 5 by 5, in whose middle the flight begins, with these heights, 30 elsewhere; readings 10, 11 and so on. */
    private static String fromTheMiddle(int[][] cellsOfSteps) {
        int[] heights = Watched.like(25, 30);
        for (int step = 0; step < cellsOfSteps.length; step++) {
            for (int c : cellsOfSteps[step]) {
                heights[c] = 10 + step;
            }
        }
        Watched x = Watched.over(5, 5, heights);
        x.meter(20, 3, 1);
        x.begin(12);
        for (int step = 0; step < cellsOfSteps.length; step++) {
            x.move(0, 0);
            x.read(10 + step);
        }
        return x.bestPath();
    }

    private static void waysAreMultiplied() {
        // 12 12 6 0 has 9 times 1 times 1, 12 13 14 19 has 3 times 3 times 3.
        SHEET.due("27 and not 9", fromTheMiddle(new int[][] {{12, 13}, {6, 14}, {0, 19}}), "0: 12 13 14 19");
        // 12 11 10 has 3 times 3, 12 12 18 has 9 times 1.
        SHEET.due("9 alike: the first", fromTheMiddle(new int[][] {{11, 12}, {10, 18}}), "0: 12 11 10");
        // 12 12 6 has 9 times 1, 12 13 14 has 3 times 3.
        SHEET.due("9 alike: the first", fromTheMiddle(new int[][] {{12, 13}, {6, 14}}), "0: 12 12 6");
        // 12 6 5 has 1 times 3, 12 17 22 has 3 times 3, 12 18 24 has 1 times 1.
        SHEET.due("9 of 9, 3 and 1", fromTheMiddle(new int[][] {{6, 17, 18}, {5, 22, 24}}), "0: 12 17 22");
    }

    private static void ofLikePathsTheFirst() {
        Watched x = Watched.overLike(3, 3, 9);
        x.meter(0, 1, 1);
        x.move(0, 0);
        x.move(1, 1);
        SHEET.due("CELL by CELL the lesser number", x.bestPath(), "0: 0 0 0");
        x.begin(NONE);
        x.move(-2, -2);
        x.move(2, 2);
        SHEET.due("from 4 at the least", x.bestPath(), "0: 4 0 4");
        // Two paths have no fault, from 1 to 4 and from 2 to 3: the lesser beginning comes ahead of the lesser end.
        Watched y = Watched.over(4, 2, 15, 5, 5, 7, 7, 15, 15, 15);
        y.meter(20, 1, 1);
        y.read(5);
        y.move(0, 0);
        y.read(7);
        SHEET.due("the beginning ahead of the end", y.bestPath(), "0: 1 4");
    }

    private static void theRow() {
        SHEET.sentence("THE ROW: READINGS and MOVES since the FLIGHT began", TermEdgeRuns::rowSinceTheFlightBegan);
        SHEET.sentence("or one was LOST the last time (a READING is in it; a MOVE is not)", TermEdgeRuns::rowSinceOneWasLost);
        SHEET.sentence("PATHS: a CELL at first, and one behind each MOVE", TermEdgeRuns::pathsHaveACellMoreThanMoves);
        SHEET.sentence("all on THE MAP", TermEdgeRuns::pathsStayOnTheMap);
        SHEET.sentence("each one off by a drift with a WEIGHT above 0", TermEdgeRuns::pathsDriftWithAWeight);
        SHEET.sentence("PATHS begin there (not behind LOST)", TermEdgeRuns::pathsBeginThere);
        SHEET.sentence("of all READINGS the differences (UNTOLD: 0), together", TermEdgeRuns::faultIsOfAllReadings);
        SHEET.sentence("to the HEIGHTS of the CELLS where one was then", TermEdgeRuns::faultIsWhereOneWasThen);
        SHEET.sentence("BEST: the least FAULT; of such the most WAYS", TermEdgeRuns::bestHasTheLeastFault);
        SHEET.sentence("WAYS: all its WEIGHTS multiplied", TermEdgeRuns::waysAreMultiplied);
        SHEET.sentence("of these the first (CELL by CELL the lesser number)", TermEdgeRuns::ofLikePathsTheFirst);
    }

    // ---- 4. A ROUTE and a CHECK

    private static int pairsOf(int cells) {
        return cells * (cells - 1) / 2;
    }

    private static void routesHaveNoDrift() {
        for (int w1 = 0; w1 <= 1; w1++) {
            Watched x = Watched.overLike(4, 3, 9);
            x.meter(0, 2, w1);
            SHEET.due("by 3, 2 from one CELL", x.put(3, 2).twins(), 0);
            SHEET.due("by 3, 1 from two", x.put(3, 1).twins(), 1);
            SHEET.due("by 4, 0 from none", x.put(4, 0).twins(), 0);
        }
    }

    private static void routesHaveEightMovesAtMost() {
        Watched x = Watched.overLike(2, 2, 9);
        for (int moves = 0; moves <= 12; moves++) {
            SHEET.due(moves + " MOVES", x.put(new int[2 * moves]).twins(), moves <= 8 ? 6 : NONE);
        }
        SHEET.due("eighty MOVES", x.put(new int[160]).twins(), NONE);
        int[] lastLeaves = new int[16];
        lastLeaves[14] = 1;
        SHEET.due("the eighth MOVE counts", x.put(lastLeaves).twins(), 1);
    }

    private static void flownIfItStaysOnTheMap() {
        Watched x = Watched.overLike(4, 3, 9);
        for (int dy = -5; dy <= 5; dy++) {
            for (int dx = -5; dx <= 5; dx++) {
                int cells = cut(-dx, 3 - dx, 4) * cut(-dy, 2 - dy, 3);
                SHEET.due("by " + dx + ", " + dy, x.put(dx, dy).twins(), pairsOf(cells));
            }
        }
    }

    private static void flownBehindEachMove() {
        Watched x = Watched.overLike(3, 2, 9);
        SHEET.due("right and back", x.put(2, 0, -2, 0).twins(), 1);
        SHEET.due("its first pair", x.twin(), 3);
        SHEET.due("left and back", x.put(-2, 0, 2, 0).twins(), 1);
        SHEET.due("its first pair", x.twin(), 405);
        SHEET.due("down and up", x.put(0, 1, 0, -1).twins(), 3);
        SHEET.due("up and down", x.put(0, -1, 0, 1).twins(), 3);
        SHEET.due("too far and back", x.put(3, 0, -3, 0).twins(), 0);
        SHEET.due("too far and back", x.put(0, -2, 0, 2).twins(), 0);
        SHEET.due("all along the upper row, then down", x.put(1, 0, 1, 0, -2, 1, 2, 0).twins(), 0);
    }

    private static void heightsAtTheBeginningAndBehindEachMove() {
        // Two routes to the right, along two rows that differ in one cell.
        for (int place = 0; place < 4; place++) {
            int[] heights = {50, 100, 150, 200, 50, 100, 150, 200};
            Watched x = Watched.over(4, 2, heights);
            SHEET.due("rows alike", x.put(1, 0, 1, 0, 1, 0).twins(), 1);
            SHEET.due("the pair", x.twin(), 4);
            heights[4 + place] += 1;
            x = Watched.over(4, 2, heights);
            SHEET.due("CELL " + place + " is another", x.put(1, 0, 1, 0, 1, 0).twins(), 0);
        }
    }

    private static void differByTwiceErr() {
        for (int err = 0; err <= 20; err++) {
            Watched x = Watched.over(2, 2, 10, 10 + 2 * err, 100, 101 + 2 * err);
            x.meter(err, 1, 0);
            SHEET.due("twice " + err, x.twins(), 1);
            SHEET.due("the pair", x.twin(), 1);
            Watched y = Watched.over(2, 2, 101 + 2 * err, 100, 10 + 2 * err, 10);
            y.meter(err, 1, 0);
            SHEET.due("twice " + err, y.twins(), 1);
            SHEET.due("the pair", y.twin(), 2 * 200 + 3);
        }
    }

    private static void untoldDiffersByNothing() {
        Watched x = Watched.over(2, 2, UNTOLD, 0, 250, UNTOLD);
        SHEET.due("at the beginning", x.twins(), 5);
        SHEET.due("0 above UNTOLD, 250 above UNTOLD: UNTOLD, UNTOLD", x.put(0, 1).twins(), 1);
        Watched y = Watched.over(2, 2, 0, 250, 100, UNTOLD);
        SHEET.due("behind a MOVE UNTOLD, at the beginning not alike", y.put(0, 1).twins(), 0);
        Watched z = Watched.overLike(12, 12, UNTOLD);
        SHEET.due("all UNTOLD", z.twins(), pairsOf(144));
        SHEET.due("one below UNTOLD: 0 and 250 alone", Watched.over(2, 2, 250, 0, 0, 250).twins(), 2);
    }

    private static void checkFitsByErr() {
        for (int err = 0; err <= 20; err++) {
            Watched x = Watched.over(2, 2, 100, 0, 250, 100);
            x.meter(err, 1, 0);
            SHEET.due("by ERR", x.check(0, 100 + err), 0);
            SHEET.due("by ERR", x.check(0, 100 - err), 0);
            SHEET.due("by one more", x.check(0, 101 + err), 1);
            SHEET.due("by one more", x.check(0, 99 - err), 1);
            SHEET.due("at HEIGHT 0", x.check(1, err), 0);
            SHEET.due("at HEIGHT 0", x.check(1, err + 1), 1);
            SHEET.due("at HEIGHT 250", x.check(2, 250 - err), 0);
            SHEET.due("at HEIGHT 250", x.check(2, 249 - err), 1);
        }
    }

    private static void speaks(String name, Watched x, String due, int... values) {
        StringBuilder all = new StringBuilder();
        for (int v : values) {
            all.append(x.check(0, v));
        }
        SHEET.due(name, all.toString(), due);
    }

    private static void threeAndNotTwo() {
        Watched x = Watched.overLike(2, 2, 100);
        speaks("two", x, "11", 101, 101);
        SHEET.due("HEIGHT behind two", x.height(0), 100);
        SHEET.due("mended", x.count(6), 0);
        speaks("the third", x, "2", 101);
        SHEET.due("HEIGHT behind three", x.height(0), 101);
        SHEET.due("mended", x.count(6), 1);
        Watched y = Watched.overLike(2, 2, 100);
        speaks("too low", y, "112", 0, 0, 0);
        SHEET.due("HEIGHT", y.height(0), 0);
        speaks("too high", y, "112", 250, 250, 250);
        SHEET.due("HEIGHT", y.height(0), 250);
    }

    private static void allTooHighOrAllTooLow() {
        Watched x = Watched.overLike(2, 2, 100);
        speaks("either way", x, "11111111", 150, 50, 150, 50, 150, 150, 50, 50);
        speaks("the third too low", x, "2", 40);
        SHEET.due("HEIGHT", x.height(0), 50);
        Watched y = Watched.overLike(2, 2, 100);
        speaks("either way", y, "11111111", 50, 150, 50, 150, 50, 50, 150, 150);
        speaks("the third too high", y, "2", 160);
        SHEET.due("HEIGHT", y.height(0), 150);
    }

    private static void withoutOneBetween() {
        Watched x = Watched.overLike(2, 2, 100);
        speaks("one that FITS between", x, "110110", 150, 150, 100, 160, 160, 100);
        speaks("one that FITS behind the first", x, "101", 150, 100, 150);
        speaks("one the other way, then two", x, "111", 90, 160, 170);
        SHEET.due("HEIGHT", x.height(0), 100);
        SHEET.due("mended", x.count(6), 0);
        speaks("the third behind the one between", x, "2", 180);
        SHEET.due("those ahead of it don't count", x.height(0), 170);
    }

    private static void otherCellsAreNotBetween() {
        Watched x = Watched.overLike(2, 2, 100);
        x.check(0, 110);
        x.check(1, 100);
        x.check(2, 90);
        x.check(0, 120);
        x.check(1, 90);
        x.check(3, 120);
        SHEET.due("the third at CELL 0", x.check(0, 130), 2);
        SHEET.due("HEIGHTS", x.heights(4), "120 100 100 100");
    }

    private static void sinceToldOrMended() {
        Watched x = Watched.overLike(2, 2, 100);
        speaks("two", x, "11", 150, 150);
        x.put(100, 100, 100, 100).map(2, 2);
        speaks("told again: three more", x, "112", 140, 150, 160);
        SHEET.due("HEIGHT", x.height(0), 150);
        speaks("mended: three more", x, "112", 170, 171, 172);
        SHEET.due("HEIGHT", x.height(0), 171);
        speaks("mended: three more, too low", x, "112", 150, 150, 160);
        SHEET.due("HEIGHT", x.height(0), 150);
        Watched y = new Watched();
        speaks("UNTOLD, then three", y, "2112", 100, 150, 150, 150);
        SHEET.due("HEIGHT", y.height(0), 150);
    }

    private static void theMiddleOfThree() {
        int[][] threes = {{110, 120, 130}, {110, 130, 120}, {120, 110, 130}, {120, 130, 110}, {130, 110, 120}, {130, 120, 110},
            {120, 120, 130}, {120, 130, 120}, {130, 120, 120}, {120, 120, 110}, {120, 110, 120}, {110, 120, 120}};
        for (int[] three : threes) {
            Watched x = Watched.overLike(2, 2, 100);
            speaks("too high", x, "112", three);
            SHEET.due("the middle one", x.height(0), 120);
            Watched y = Watched.overLike(2, 2, 200);
            speaks("too low", y, "112", three);
            SHEET.due("the middle one", y.height(0), 120);
        }
    }

    private static void firstCheckOfAnUntoldCell() {
        for (int v : new int[] {0, 1, 125, 249, 250}) {
            Watched x = new Watched();
            SHEET.due("check(3, " + v + ")", x.check(3, v), 2);
            SHEET.due("HEIGHTS", x.heights(4), "-1 -1 -1 " + v);
            SHEET.due("the first alone", x.check(3, v > 125 ? v - 1 : v + 1), 1);
            SHEET.due("HEIGHT", x.height(3), v);
        }
    }

    private static void aRouteAndACheck() {
        SHEET.sentence("A ROUTE: MOVES without drift", TermEdgeRuns::routesHaveNoDrift);
        SHEET.sentence("8 at most", TermEdgeRuns::routesHaveEightMovesAtMost);
        SHEET.sentence("It is FLOWN from a CELL, if it stays on THE MAP", TermEdgeRuns::flownIfItStaysOnTheMap);
        SHEET.sentence("if it stays on THE MAP: behind each MOVE", TermEdgeRuns::flownBehindEachMove);
        SHEET.sentence("HEIGHTS at the beginning and behind each MOVE", TermEdgeRuns::heightsAtTheBeginningAndBehindEachMove);
        SHEET.sentence("that differ by twice ERR at most", TermEdgeRuns::differByTwiceErr);
        SHEET.sentence("(an UNTOLD one by nothing)", TermEdgeRuns::untoldDiffersByNothing);
        SHEET.sentence("It SPEAKS AGAINST the HEIGHT, if it does not FIT", TermEdgeRuns::checkFitsByErr);
        SHEET.sentence("When three have SPOKEN AGAINST it", TermEdgeRuns::threeAndNotTwo);
        SHEET.sentence("all too high or all too low", TermEdgeRuns::allTooHighOrAllTooLow);
        SHEET.sentence("without one that FITS or SPEAKS the other way between", TermEdgeRuns::withoutOneBetween);
        SHEET.sentence("A CHECK at a CELL: those at others are not between", TermEdgeRuns::otherCellsAreNotBetween);
        SHEET.sentence("since the HEIGHT was told (or mended)", TermEdgeRuns::sinceToldOrMended);
        SHEET.sentence("the HEIGHT is the middle one of these three", TermEdgeRuns::theMiddleOfThree);
        SHEET.sentence("An UNTOLD CELL has the HEIGHT of its first CHECK", TermEdgeRuns::firstCheckOfAnUntoldCell);
    }

    public static void main(String[] args) {
        theMap();
        aFlight();
        theRow();
        aRouteAndACheck();
        SHEET.end();
    }
}
