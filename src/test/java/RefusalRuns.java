import java.util.ArrayList;
import java.util.List;
import java.util.function.Consumer;
import java.util.function.IntFunction;
import java.util.function.Supplier;
import java.util.function.ToLongFunction;

/**
 * Behind a call that was refused all is as it was. Two objects have the same calls, and one of them the refused call too:
 * then both must answer alike, whatever is asked. Where the tape goes with the refused call, the other has end(0).
 */
public final class RefusalRuns {
    private static final int NONE = Watched.NONE;
    private static final int LOST = Watched.LOST;
    private static final int UNTOLD = Watched.UNTOLD;
    private static final Sheet SHEET = new Sheet("RefusalRuns");

    private record State(String name, Supplier<Watched> made) { }

    private static final List<State> STATES = List.of(
        new State("a new object", Watched::new),
        new State("on the way", RefusalRuns::onTheWay),
        new State("behind LOST", RefusalRuns::behindLost),
        new State("all is full", RefusalRuns::full));

    // ---- The objects

    /** Drift, a beginning with one CELL, a path, a pair of TWINS, CHECKS that have spoken, bytes on the tape. */
    private static Watched onTheWay() {
        Watched x = Watched.over(3, 2, 100, 104, UNTOLD, 110, 100, 96);
        x.meter(5, 3, 1);
        x.best();
        x.put(1, 0).twins();
        x.begin(4);
        x.read(101);
        x.move(0, -1);
        x.read(103);
        x.move(1, 0);
        x.best();
        x.read(99);
        x.check(0, 110);
        x.check(0, 130);
        x.check(1, 60);
        x.check(3, 90);
        x.check(3, 70);
        x.check(5, 90);
        return x.put(10, 20, 30, 40, 50);
    }

    private static Watched behindLost() {
        Watched x = Watched.over(3, 2, 100, 104, 108, 110, 100, UNTOLD);
        x.meter(0, 2, 0);
        x.begin(1);
        x.move(1, 1);
        x.move(1, 0);
        x.check(0, 110);
        x.check(0, 130);
        x.check(5, 110);
        x.read(104);
        x.read(110);
        return x.put(1, 0, 0, 1);
    }

    private static Watched full() {
        int[] heights = new int[144];
        for (int c = 0; c < 144; c++) {
            heights[c] = c % 11 == 0 ? UNTOLD : 90 + c % 20;
        }
        Watched x = Watched.over(12, 12, heights);
        x.meter(20, 3, 1);
        for (int i = 0; i < 40; i++) {
            if (i % 3 == 0 && i < 36) {
                x.move(i % 2 == 0 ? 1 : -1, i % 4 - 1);
            }
            x.read(95 + i % 7);
        }
        x.best();
        x.twins();
        x.check(1, 200);
        x.check(1, 180);
        x.check(2, 10);
        x.check(3, 190);
        x.check(3, 170);
        return x.put(Watched.like(160, 3));
    }

    // ---- What is asked behind the refused call

    /** What both answer that tells of WEIGHTS, THE ROW and CHECKS; v decides which of three CHECKS is the middle one. */
    private static String state(Watched x, int v) {
        StringBuilder all = new StringBuilder(x.look()).append(" best ").append(x.bestPath());
        for (int c = 0; c < 6; c++) {
            all.append(" checks ").append(x.check(c, v)).append(x.check(c, v)).append(x.check(c, v)).append(x.height(c));
        }
        all.append(" read ").append(x.read(101)).append(" best ").append(x.bestPath());
        all.append(" move ").append(x.move(0, 1)).append(' ').append(x.parts(4)).append(" best ").append(x.bestPath());
        x.begin(1);
        all.append(" begun ").append(x.move(0, 0)).append(' ').append(x.parts(4));
        return all.append(" twins ").append(x.put(1, 0).twins()).append(' ').append(x.twin()).toString();
    }

    /** The bytes of the tape, as a map of its first ones tells them. (No call tells the last ones of a tape of 160.) */
    private static String tape(Watched x) {
        int size = x.count(7);
        int w = size > 16 ? 12 : 4;
        int h = size > 16 ? 11 : 4;
        for (int n = size; n < w * h; n += 20) {
            x.feed(0, 0, 0, 0, 0);
        }
        x.end(w * h);
        return size + ":" + x.map(w, h) + " " + x.heights(Math.min(size, w * h));
    }

    private static void alike(String call, Supplier<Watched> made, Consumer<Watched> refused, boolean tapeGoes) {
        for (int v : new int[] {0, 80, 105, 120, 250}) {
            Watched one = made.get();
            Watched other = made.get();
            refused.accept(one);
            if (tapeGoes) {
                other.end(0);
            }
            SHEET.due("state behind " + call, state(one, v), state(other, v));
        }
        Watched one = made.get();
        Watched other = made.get();
        refused.accept(one);
        if (tapeGoes) {
            other.end(0);
        }
        SHEET.due("tape behind " + call, tape(one), tape(other));
    }

    private static void refused(State s, String call, long due, ToLongFunction<Watched> ask) {
        String name = call + ", " + s.name();
        SHEET.due(name, ask.applyAsLong(s.made().get()), due);
        alike(name, s.made(), ask::applyAsLong, false);
    }

    private static void refusedWithTape(State s, String call, long due, ToLongFunction<Watched> ask) {
        String name = call + ", " + s.name();
        SHEET.due(name, ask.applyAsLong(s.made().get()), due);
        alike(name, s.made(), ask::applyAsLong, true);
    }

    private static long one(boolean b) {
        return b ? 1 : 0;
    }

    private static int cells(State s) {
        Watched x = s.made().get();
        return x.count(0) * x.count(1);
    }

    private static void outside(State s, String call, int least, int greatest, long due, IntFunction<ToLongFunction<Watched>> ask) {
        for (int n : Watched.outside(least, greatest)) {
            refused(s, call + " with " + n, due, ask.apply(n));
        }
    }

    // ---- The refused calls

    private static void feedIsRefused() {
        for (int size : new int[] {141, 160}) {
            for (State s : STATES) {
                State more = new State(s.name() + ", " + size + " bytes", () -> s.made().get().put(Watched.like(size, 7)));
                refused(more, "feed", NONE, x -> x.feed(1, 2, 3, 4, 5));
                refused(more, "feed", NONE, x -> x.feed(-1, Integer.MIN_VALUE, Integer.MAX_VALUE, 0, 1));
            }
        }
    }

    private static void endIsRefused() {
        for (State s : STATES) {
            int size = s.made().get().count(7);
            outside(s, "end", 0, size, 0, n -> x -> one(x.end(n)));
        }
    }

    private static void mapBySides() {
        for (State s : STATES) {
            for (int side : Watched.outside(2, 12)) {
                refusedWithTape(s, "map(" + side + ", 2)", 0, x -> one(x.map(side, 2)));
                refusedWithTape(s, "map(2, " + side + ")", 0, x -> one(x.map(2, side)));
            }
            refusedWithTape(s, "map(1, 4)", 0, x -> one(x.put(1, 2, 3, 4).map(1, 4)));
            refusedWithTape(s, "map(4, 1)", 0, x -> one(x.put(1, 2, 3, 4).map(4, 1)));
            refusedWithTape(s, "map(13, 2)", 0, x -> one(x.put(new int[26]).map(13, 2)));
            refusedWithTape(s, "map(2, 13)", 0, x -> one(x.put(new int[26]).map(2, 13)));
            refusedWithTape(s, "map(65536, 65536)", 0, x -> one(x.put().map(65536, 65536)));
        }
    }

    private static void mapByBytes() {
        for (State s : STATES) {
            refusedWithTape(s, "map of no byte", 0, x -> one(x.put().map(2, 2)));
            refusedWithTape(s, "map of one too few", 0, x -> one(x.put(1, 2, 3).map(2, 2)));
            refusedWithTape(s, "map of one too many", 0, x -> one(x.put(1, 2, 3, 4, 5).map(2, 2)));
            for (int value = 251; value <= 254; value++) {
                int wrong = value;
                refusedWithTape(s, "map with a last byte " + wrong, 0, x -> one(x.put(1, 2, 3, wrong).map(2, 2)));
                refusedWithTape(s, "map with a first byte " + wrong, 0, x -> one(x.put(wrong, 2, 3, 4, 5, 6).map(3, 2)));
            }
            refusedWithTape(s, "the largest map, one too many", 0, x -> one(x.put(new int[145]).map(12, 12)));
            refusedWithTape(s, "the largest map, one too few", 0, x -> one(x.put(new int[143]).map(12, 12)));
        }
    }

    private static void meterIsRefused() {
        for (State s : STATES) {
            outside(s, "meter err", 0, 20, 0, n -> x -> one(x.meter(n, 1, 0)));
            outside(s, "meter w0", 1, 3, 0, n -> x -> one(x.meter(7, n, 0)));
            outside(s, "meter w1", 0, 1, 0, n -> x -> one(x.meter(7, 1, n)));
        }
    }

    private static void beginIsRefused() {
        for (State s : STATES) {
            outside(s, "begin", NONE, cells(s) - 1, 0, n -> x -> one(x.begin(n)));
        }
    }

    private static void moveIsRefused() {
        for (State s : STATES) {
            outside(s, "move along x", -5, 5, NONE, n -> x -> x.move(n, 0));
            outside(s, "move along y", -5, 5, NONE, n -> x -> x.move(5, n));
        }
        State s = STATES.get(3);
        refused(s, "the thirteenth MOVE", NONE, x -> x.move(0, 0));
        refused(s, "the thirteenth MOVE, twice", NONE, x -> Math.max(x.move(5, 5), x.move(-5, 5)));
    }

    private static void readIsRefused() {
        for (State s : STATES) {
            outside(s, "read", 0, 250, NONE, n -> x -> x.read(n));
        }
        State s = STATES.get(3);
        refused(s, "READING 41", NONE, x -> x.read(95));
        refused(s, "READING 41, which FITS none", NONE, x -> Math.max(x.read(250), x.read(0)));
    }

    private static void shareThrows() {
        for (State s : STATES) {
            for (int what = 0; what <= 1; what++) {
                int which = what;
                outside(s, "share of " + what, 0, cells(s) - 1, Watched.THROWN, n -> x -> x.share(n, which));
            }
            outside(s, "share of CELL 0", 0, 1, Watched.THROWN, n -> x -> x.share(0, n));
        }
    }

    private static void askedWrongly() {
        for (State s : STATES) {
            outside(s, "span", 0, 4, NONE, n -> x -> x.span(n));
            outside(s, "path", 0, 12, NONE, n -> x -> x.path(n));
            outside(s, "height", 0, cells(s) - 1, -2, n -> x -> x.height(n));
            outside(s, "count", 0, 7, NONE, n -> x -> x.count(n));
        }
    }

    private static void bestWithoutAPath() {
        State s = new State("no PATH", () -> {
            Watched x = onTheWay();
            x.begin(0);
            x.read(100);
            x.move(-1, 0);
            x.meter(5, 3, 0);
            return x;
        });
        refused(s, "best", NONE, Watched::best);
        Watched x = s.made().get();
        x.best();
        SHEET.due("path(0) of the one ahead", x.path(0), 4);
        SHEET.due("READINGS", x.count(4), 1);
    }

    private static void twinsOfNoRoute() {
        for (State s : STATES) {
            refusedWithTape(s, "twins of one byte", NONE, x -> x.put(0).twins());
            refusedWithTape(s, "twins of nine MOVES", NONE, x -> x.put(new int[18]).twins());
            refusedWithTape(s, "twins of 160 bytes", NONE, x -> x.put(new int[160]).twins());
            for (int step : new int[] {6, -6, 127, -128}) {
                refusedWithTape(s, "twins by " + step + ", 0", NONE, x -> x.put(1, 0, step, 0).twins());
                refusedWithTape(s, "twins by 0, " + step, NONE, x -> x.put(1, 0, 0, step).twins());
            }
        }
    }

    private static void routeOfNoRoutes() {
        for (State s : STATES) {
            for (int n : Watched.outside(1, 8)) {
                refusedWithTape(s, "route(" + n + ")", NONE, x -> x.put(1, 0, 0, 1).route(n));
                refusedWithTape(s, "route(" + n + ") of no byte", NONE, x -> x.put().route(n));
            }
            refusedWithTape(s, "route of other lengths", NONE, x -> x.put(1, 0, 0, 1, 1, 1).route(2));
            refusedWithTape(s, "route of nine MOVES", NONE, x -> x.put(new int[18]).route(1));
            refusedWithTape(s, "route with a wrong one", NONE, x -> x.put(1, 0, 6, 0).route(2));
        }
    }

    private static void checkIsRefused() {
        for (State s : STATES) {
            outside(s, "check at", 0, cells(s) - 1, NONE, n -> x -> x.check(n, 120));
            for (int c = 0; c < 4; c++) {
                int cell = c;
                outside(s, "check at " + c + " by", 0, 250, NONE, n -> x -> x.check(cell, n));
            }
        }
    }

    private static Watched asked(State s) {
        Watched x = s.made().get();
        x.best();
        return x;
    }

    /** What answers without being told to change anything: asked often, all stays. */
    private static void askingChangesNothing() {
        for (State s : STATES) {
            alike("asking, " + s.name(), s.made(), Watched::look, false);
            alike("a second best(), " + s.name(), () -> asked(s), Watched::best, false);
        }
    }

    private static void severalBehindOneAnother() {
        List<Consumer<Watched>> calls = new ArrayList<>();
        calls.add(x -> x.end(-1));
        calls.add(x -> x.meter(21, 1, 0));
        calls.add(x -> x.begin(-2));
        calls.add(x -> x.move(6, 0));
        calls.add(x -> x.read(251));
        calls.add(x -> x.share(-1, 0));
        calls.add(x -> x.check(0, 251));
        calls.add(x -> x.check(-1, 100));
        calls.add(x -> x.height(-1));
        calls.add(x -> x.count(8));
        for (State s : STATES) {
            alike("ten refused calls, " + s.name(), s.made(), x -> calls.forEach(call -> call.accept(x)), false);
        }
    }

    private static void statesAreAsMeant() {
        Watched way = onTheWay();
        SHEET.due("MOVES", way.count(3), 2);
        SHEET.due("READINGS", way.count(4), 3);
        SHEET.due("LOST", way.count(5), 0);
        SHEET.due("the path", way.path(1) != NONE, true);
        SHEET.due("the pair", way.twin(), 1);
        Watched lost = behindLost();
        SHEET.due("MOVES", lost.count(3), 0);
        SHEET.due("READINGS", lost.count(4), 1);
        SHEET.due("LOST", lost.count(5) > 0, true);
        SHEET.due("one CELL and the mended one", lost.span(4), 2);
        Watched full = full();
        SHEET.due("MOVES", full.count(3), 12);
        SHEET.due("READINGS", full.count(4), 40);
        SHEET.due("bytes", full.count(7), 160);
        SHEET.due("LOST", full.count(5), 0);
        SHEET.due("another READING", LOST != full.read(95), true);
    }

    private static void changes() {
        SHEET.sentence("the objects of these tests", RefusalRuns::statesAreAsMeant);
        SHEET.sentence("2: NONE, and none come", RefusalRuns::feedIsRefused);
        SHEET.sentence("3: false, if it has not so many, or n is below 0", RefusalRuns::endIsRefused);
        SHEET.sentence("4: false, and all stays: W and H", RefusalRuns::mapBySides);
        SHEET.sentence("4: false, and all stays: the bytes", RefusalRuns::mapByBytes);
        SHEET.sentence("5: false, if they are not as told", RefusalRuns::meterIsRefused);
        SHEET.sentence("6: false: no such one", RefusalRuns::beginIsRefused);
        SHEET.sentence("7: NONE: there were 12, or it is not as told", RefusalRuns::moveIsRefused);
        SHEET.sentence("8: NONE: it is not as told, or THE ROW has 40 READINGS", RefusalRuns::readIsRefused);
    }

    private static void answers() {
        SHEET.sentence("A call that throws changes nothing", RefusalRuns::shareThrows);
        SHEET.sentence("11, 13, 18, 19: NONE or -2 for none such", RefusalRuns::askedWrongly);
        SHEET.sentence("12: NONE: there is no PATH", RefusalRuns::bestWithoutAPath);
        SHEET.sentence("14: NONE: it is none", RefusalRuns::twinsOfNoRoute);
        SHEET.sentence("16: NONE: they are none", RefusalRuns::routeOfNoRoutes);
        SHEET.sentence("17: NONE: no such ones", RefusalRuns::checkIsRefused);
        SHEET.sentence("calls that answer alone change nothing", RefusalRuns::askingChangesNothing);
        SHEET.sentence("refused calls one behind another", RefusalRuns::severalBehindOneAnother);
    }

    public static void main(String[] args) {
        changes();
        answers();
        SHEET.end();
    }
}
