import java.util.function.Consumer;

/** Promises 30 to 37 at their boundaries: answers and dead points, sheets, counts. */
public final class BoundarySheetTest {
    private static final int BAD = -1, FULL = -3, NONE = -4;
    private static final int MIN = Integer.MIN_VALUE, MAX = Integer.MAX_VALUE;
    private static final int NULL_FAULT = 1, INDEX = 2, CAST = 3;

    private static final Due DUE = new Due();
    private static final Traces TRACES = new Traces(DUE);

    public static void main(String[] args) {
        promise30Bounds();
        promise30Full();
        promise31NoneAndMost();
        promise31WouldFeel();
        promise31FeltInNone();
        promise31AsToldNoneDeadNoRound();
        promise32Bounds();
        promise32EachAndAll();
        promise33Bounds();
        promise33Size();
        promise33NewRow();
        promise34Bounds();
        promise34Index();
        promise34LowestBits();
        promise35Bounds();
        promise35CellsOfTheScene();
        promise35CellsOfTheSheet();
        promise35DarkFromThereOn();
        promise35NotZeroToNine();
        promise35TheFirstMet();
        promise35NullCastIndex();
        promise35NoCells();
        promise36Latest();
        promise37Bounds();
        promise37NoneAndMost();
        promise37OfThePastsTried();
        DUE.end();
    }

    private static void is(String call, long got, long want) {
        DUE.is(call, got, want);
    }

    private static TongueSight told(String text, int place) {
        TongueSight x = new TongueSight();
        is("told " + text, Due.tell(x, text) >= 0 ? 1 : 0, 1);
        x.place(place);
        return x;
    }

    private static int cellOf(int p) {
        return 8 * (p / 4) + p % 4;
    }

    // ---- promise 30

    private static void promise30Bounds() {
        for (boolean felt : new boolean[] {true, false}) {
            TRACES.bounds("30 SCENE", 0, 5, v -> x -> x.answer(v, 0, 0, felt));
            TRACES.bounds("30 PLACE", 0, 25, v -> x -> x.answer(0, v, 0, felt));
            TRACES.bounds("30 POINT", 0, 15, v -> x -> x.answer(0, 0, v, felt));
        }
    }

    private static void promise30Full() {
        for (boolean felt : new boolean[] {true, false}) {
            TongueSight x = new TongueSight();
            for (int i = 1; i <= 12; i++) {
                is("30 how many there are", x.answer(5, 25, 15, felt), i);
                is("37 ANSWERS", x.count(3), i);
            }
            for (int i = 0; i < 3; i++) {
                is("30 a thirteenth", x.answer(5, 25, 15, felt), FULL);
                is("37 ANSWERS", x.count(3), 12);
            }
            is("30 BAD before FULL", x.answer(6, 25, 15, felt), BAD);
            is("30 BAD before FULL", x.answer(5, 26, 15, felt), BAD);
            is("30 BAD before FULL", x.answer(5, 25, 16, felt), BAD);
            TRACES.refusedAfter(Traces.BRIM, "30 FULL", FULL, y -> y.answer(0, 0, 0, felt));
            TRACES.refusedAfter(Traces.BRIM, "30 FULL", FULL, y -> y.answer(5, 25, 11, felt));
        }
    }

    // ---- promise 31

    private static void promise31NoneAndMost() {
        TongueSight x = told("", 25);
        for (int p = 0; p < 16; p++) {
            x.light(0, cellOf(p), 9);
        }
        is("31 no ANSWERS", x.dead(), 0);
        int due = 0;
        for (int p = 15; p >= 4; p--) {
            x.answer(0, 0, p, false);
            due |= 1 << p;
            is("31 MAY be DEAD", x.dead(), due);
        }
        x.answer(0, 0, 3, false);
        is("31 not by one that was refused", x.dead(), due);
        TRACES.asksOnly("31 dead() asks", TongueSight::dead);
        for (int p = 0; p < 16; p++) {
            x = told("", 25);
            x.light(0, cellOf(p), 1);
            x.answer(0, 0, p, false);
            is("31 bit " + p, x.dead(), 1 << p);
        }
    }

    private static void promise31WouldFeel() {
        for (int least = 1; least <= 9; least++) {
            TongueSight x = told("least 15 " + least + ";", 25);
            x.answer(5, 24, 15, false);
            x.light(5, 63, least - 1);
            is("31 just below LEAST " + least, x.dead(), 0);
            x.light(5, 63, least);
            is("31 just LEAST " + least, x.dead(), 1 << 15);
        }
        TongueSight x = told("less 3;", 25);
        x.answer(0, 0, 12, false);
        x.light(0, 24, 9);
        is("31 9 less 9", x.dead(), 0);
        Due.tell(x, "less 2;");
        is("31 9 less 6", x.dead(), 1 << 12);
        x = told("", 0);
        x.answer(0, 25, 0, false);
        x.light(0, 9, 3);
        is("31 FAR 3 by 4", x.dead(), 0);
        x.light(0, 9, 4);
        is("31 FAR 4 by 4", x.dead(), 1);
        x = told("spread 4;", 25);
        x.answer(0, 0, 0, false);
        x.light(0, 1, 3);
        is("31 12 by 16", x.dead(), 0);
        x.light(0, 1, 4);
        is("31 16 by 16", x.dead(), 1);
        x = told("way dark;", 25);
        x.answer(0, 0, 0, false);
        is("31 dark", x.dead(), 1);
        x.light(0, 0, 9);
        is("31 9 less 9", x.dead(), 0);
    }

    private static void promise31FeltInNone() {
        for (int at = 0; at < 12; at++) {
            TongueSight x = told("", 25);
            x.light(0, 0, 9);
            for (int i = 0; i < 12; i++) {
                // The one ANSWER that she felt it is of a SCENE where there is nothing to feel.
                x.answer(i == at ? 5 : 0, 0, 0, i == at);
            }
            is("31 felt in ANSWER " + at, x.dead(), 0);
        }
        for (int at = 0; at < 12; at++) {
            TongueSight x = told("", 25);
            x.light(0, 0, 9);
            for (int i = 0; i < 12; i++) {
                x.answer(i == at ? 0 : 5, 0, 0, false);
            }
            is("31 in some ANSWER: " + at, x.dead(), 1);
        }
        TongueSight x = told("", 25);
        x.light(0, 0, 9);
        x.light(0, 1, 9);
        x.answer(0, 0, 0, false);
        x.answer(0, 0, 1, true);
        is("31 another POINT was felt", x.dead(), 1);
        x.answer(0, 0, 1, false);
        x.answer(5, 25, 0, true);
        x.answer(5, 25, 15, true);
        is("31 both were felt", x.dead(), 0);
    }

    private static void promise31AsToldNoneDeadNoRound() {
        TongueSight x = told("tire 9;", 0);
        x.light(0, 0, 8);
        x.light(1, 0, 9);
        x.tenths(1, 20);
        is("12 TIRED by 9 it feels nothing", x.point(0, 0, 2), 0);
        x.answer(0, 0, 0, false);
        is("31 TIRED 0", x.dead(), 1);
        for (int p = 0; p < 16; p++) {
            x.kill(p, true);
        }
        is("31 none DEAD", x.dead(), 1);
        x = told("round;dead 1;", 0);
        x.light(0, 1, 9);
        is("12 by ROUND it feels", x.point(0, 0, 2), 9);
        x.answer(0, 0, 0, false);
        is("31 no ROUND", x.dead(), 0);
        x.answer(0, 0, 1, false);
        is("31 a DEAD one", x.dead(), 2);
        Due.tell(x, "most 1;");
        is("31 MOST is something", x.dead(), 2);
    }

    // ---- promise 32

    private static void promise32Bounds() {
        for (boolean is : new boolean[] {true, false}) {
            TRACES.bounds("32 POINT", 0, 15, v -> x -> x.kill(v, is));
        }
    }

    private static void promise32EachAndAll() {
        for (int p = 0; p < 16; p++) {
            TongueSight x = new TongueSight();
            is("32 not DEAD becomes not DEAD", x.kill(p, false), 0);
            is("37 none", x.count(1), 0);
            is("32 becomes DEAD", x.kill(p, true), 0);
            is("6 bit " + p, x.rule(11), 1 << p);
            is("32 DEAD becomes DEAD", x.kill(p, true), 1);
            is("37 one", x.count(1), 1);
            is("32 becomes not DEAD", x.kill(p, false), 1);
            is("6 none", x.rule(11), 0);
        }
        TongueSight x = new TongueSight();
        for (int p = 0; p < 16; p++) {
            x.kill(p, true);
        }
        is("6 all", x.rule(11), 65535);
        is("37 sixteen", x.count(1), 16);
        is("32 the last one lives", x.kill(15, false), 1);
        is("6 all but it", x.rule(11), 32767);
    }

    // ---- promise 33

    private static void promise33Bounds() {
        TRACES.bounds("33 SHEET", 0, 3, v -> x -> x.sheet(v, 0, 1));
        TRACES.bounds("33 lane", 0, 2, v -> x -> x.sheet(0, v, 1));
        for (int lane = 0; lane < 3; lane++) {
            for (int n : new int[] {65, 66, MAX}) {
                int of = lane;
                TRACES.refused("33 n above 64: " + n, BAD, x -> x.sheet(0, of, n));
            }
        }
        for (int n : new int[] {-1, MIN}) {
            TRACES.refused("33 BAD before SIZE", BAD, x -> x.sheet(-1, 0, n));
            TRACES.refused("33 BAD before SIZE", BAD, x -> x.sheet(4, 0, n));
            TRACES.refused("33 BAD before SIZE", BAD, x -> x.sheet(0, -1, n));
            TRACES.refused("33 BAD before SIZE", BAD, x -> x.sheet(0, 3, n));
        }
    }

    private static void promise33Size() {
        for (int k = 0; k < 4; k++) {
            for (int lane = 0; lane < 3; lane++) {
                int sheet = k;
                int of = lane;
                for (int n : new int[] {-1, -2, MIN}) {
                    TRACES.refused("33 SIZE " + n, -14, x -> x.sheet(sheet, of, n));
                }
                for (int n : new int[] {0, 1, 63, 64}) {
                    TongueSight x = new TongueSight();
                    is("33 a new row", x.sheet(k, lane, n), 1);
                    is("37 CELLS of SHEET 0", x.count(6), k == 0 ? n : NONE);
                    is("34 its last CELL", x.lay(k, n - 1, 1), n > 0 ? 1 : -12);
                    is("34 behind it", x.lay(k, n, 1), -12);
                }
            }
        }
    }

    private static void promise33NewRow() {
        for (int lane = 0; lane < 3; lane++) {
            TongueSight x = new TongueSight();
            x.sheet(3, lane, 64);
            for (int i = 0; i < 64; i++) {
                x.lay(3, i, 9);
            }
            x.sheet(3, lane, 1);
            is("33 one CELL", x.read(0, 3, lane, 0, 0, 64), 1);
            is("33 is 0", x.lightOf(0, 0), 0);
            x.sheet(3, lane, 64);
            is("33 64 CELLS", x.read(0, 3, lane, 0, 0, 64), 64);
            is("33 are 0", x.count(4), 0);
            x.sheet(3, (lane + 1) % 3, 64);
            is("33 of another lane", x.read(0, 3, lane, 0, 0, 64), 0);
            is("36 CAST", x.torn(), CAST);
            is("33 of this lane", x.read(0, 3, (lane + 1) % 3, 0, 0, 64), 64);
            x.lay(3, 0, 5);
            is("33 refused", x.sheet(3, lane, -1), -14);
            is("33 the old row stays", x.read(0, 3, (lane + 1) % 3, 0, 0, 1), 1);
            is("33 with its CELLS", x.lightOf(0, 0), 5);
        }
    }

    // ---- promise 34

    private static void promise34Bounds() {
        TRACES.bounds("34 SHEET", 0, 3, v -> x -> x.lay(v, 0, 0));
        for (int k : new int[] {-1, 4}) {
            TRACES.refused("34 BAD before NULL and INDEX", BAD, x -> x.lay(k, -1, 0));
            TRACES.refused("34 BAD before NULL and INDEX", BAD, x -> x.lay(k, 64, 0));
        }
    }

    private static void promise34Index() {
        for (int i : new int[] {MIN, -1, 0, 63, 64, MAX}) {
            for (int k = 0; k < 4; k++) {
                int sheet = k;
                TRACES.refusedAfter(Traces.NEW, "34 NULL, whatever i is", -11, x -> x.lay(sheet, i, 5));
            }
            TRACES.refusedAfter(Traces.MIDST, "34 NULL", -11, x -> x.lay(3, i, 5));
            TRACES.refusedAfter(Traces.MIDST, "34 INDEX of 0 CELLS", -12, x -> x.lay(2, i, 5));
        }
        for (int i : new int[] {MIN, -1, 5, 6, 64, MAX}) {
            TRACES.refusedAfter(Traces.MIDST, "34 INDEX of 5 CELLS", -12, x -> x.lay(0, i, 5));
        }
        for (int i : new int[] {MIN, -1, 64, 65, MAX}) {
            for (int k = 0; k < 4; k++) {
                int sheet = k;
                TRACES.refusedAfter(Traces.BRIM, "34 INDEX of 64 CELLS", -12, x -> x.lay(sheet, i, 5));
            }
        }
        for (int n : new int[] {1, 2, 63, 64}) {
            for (int lane = 0; lane < 3; lane++) {
                TongueSight x = new TongueSight();
                x.sheet(1, lane, n);
                is("34 below the first", x.lay(1, -1, 1), -12);
                is("34 the first", x.lay(1, 0, 1), 1);
                is("34 the last", x.lay(1, n - 1, 2), 1);
                is("34 behind the last", x.lay(1, n, 3), -12);
                is("34 all are read", x.read(0, 1, lane, 0, 0, n), n);
                is("34 the last is told", x.lightOf(0, n - 1), 2);
            }
        }
    }

    private static void promise34LowestBits() {
        int[] laid = {0, 9, 10, -1, 127, 128, 255, 256, 256 + 9, 256 + 10, -256, -256 + 9, 32767, 32768, 65535, 65536,
            65536 + 9, 65536 + 10, -65536 + 9, 65536 + 256 + 3, MIN, MIN + 9, MAX, MAX - 255};
        for (int v : laid) {
            int[] becomes = {(byte) v, (short) v, v};
            for (int lane = 0; lane < 3; lane++) {
                TongueSight x = new TongueSight();
                x.sheet(0, lane, 1);
                is("34 lay " + v, x.lay(0, 0, v), 1);
                boolean isLight = becomes[lane] >= 0 && becomes[lane] <= 9;
                is("34 its lowest bits: " + v + " in lane " + lane, x.read(0, 0, lane, 0, 0, 1), isLight ? 1 : -20);
                is("34 LIGHT of " + v, x.lightOf(0, 0), isLight ? becomes[lane] : 0);
            }
        }
    }

    // ---- promise 35

    private static void promise35Bounds() {
        for (int n : new int[] {0, 1}) {
            TRACES.bounds("35 SCENE", 0, 5, v -> x -> x.read(v, 0, 0, 0, 0, n));
            TRACES.bounds("35 SHEET", 0, 3, v -> x -> x.read(0, v, 0, 0, 0, n));
            TRACES.bounds("35 lane", 0, 2, v -> x -> x.read(0, 0, v, 0, 0, n));
        }
        int[] most = {64, 63, 32, 1, 0};
        for (int n : most) {
            TRACES.bounds("35 c and " + n, 0, 64 - n, v -> x -> x.read(0, 1, 1, 0, v, n));
            TRACES.bounds("35 " + (64 - n) + " and n", 0, n, v -> x -> x.read(0, 1, 1, 0, 64 - n, v));
        }
        int[][] wrapped = {{MAX, MAX}, {MIN, MIN}, {MAX, MIN}, {MIN, MAX}, {MAX, 1}, {MAX, -MAX}, {65, -1}, {-1, 65},
            {-1, 1}, {128, -64}, {1, MAX}, {64, MAX - 63}, {MIN + 1, MAX}};
        for (int[] w : wrapped) {
            TRACES.refused("35 c " + w[0] + " and n " + w[1], BAD, x -> x.read(0, 1, 1, 0, w[0], w[1]));
        }
    }

    /** An object whose SHEET 1 of a lane has some CELLS of LIGHT 1 to 9, and whose SCENE 2 is bright. */
    private static TongueSight withSheet(int lane, int cells) {
        TongueSight x = new TongueSight();
        x.sheet(1, lane, cells);
        for (int i = 0; i < cells; i++) {
            x.lay(1, i, 1 + i % 9);
        }
        for (int cell = 0; cell < 64; cell++) {
            x.light(2, cell, 8);
        }
        return x;
    }

    private static void promise35CellsOfTheScene() {
        int[][] parts = {{0, 0}, {0, 1}, {0, 63}, {0, 64}, {1, 63}, {62, 1}, {63, 1}, {63, 0}, {64, 0}, {30, 10}};
        for (int[] part : parts) {
            for (int lane = 0; lane < 3; lane++) {
                TongueSight x = withSheet(lane, 64);
                int c = part[0];
                int n = part[1];
                is("35 how many were told", x.read(2, 1, lane, 0, c, n), n);
                is("36 nothing is refused", x.torn(), 0);
                for (int cell = 0; cell < 64; cell++) {
                    boolean read = cell >= c && cell < c + n;
                    is("35 CELL " + cell, x.lightOf(2, cell), read ? 1 + (cell - c) % 9 : 8);
                }
                is("35 no other SCENE", x.count(4), 64);
            }
        }
    }

    private static void promise35CellsOfTheSheet() {
        int[] sizes = {0, 1, 2, 63, 64};
        for (int size : sizes) {
            for (int f : new int[] {MIN, MIN + 1, -65, -64, -2, -1, 0, 1, size - 2, size - 1, size, size + 1, MAX - 1, MAX}) {
                for (int n : new int[] {1, 2, 64}) {
                    TongueSight x = withSheet(1, size);
                    int told = f < 0 || f >= size ? 0 : Math.min(n, size - f);
                    is("35 " + n + " from " + f + " of " + size, x.read(2, 1, 1, f, 0, n), told);
                    is("36 " + n + " from " + f + " of " + size, x.torn(), told < n ? INDEX : 0);
                    is("35 the first one", x.lightOf(2, 0), told > 0 ? 1 + f % 9 : 0);
                    is("35 the last one", x.lightOf(2, n - 1), told == n ? 1 + (f + n - 1) % 9 : 0);
                    is("35 those behind", n < 64 ? x.lightOf(2, n) : 8, 8);
                }
            }
        }
    }

    private static void promise35DarkFromThereOn() {
        for (int size = 0; size <= 5; size++) {
            TongueSight x = withSheet(2, size);
            is("35 told", x.read(2, 1, 2, 0, 59, 5), size);
            is("36 INDEX", x.torn(), size < 5 ? INDEX : 0);
            is("35 ahead of them", x.lightOf(2, 58), 8);
            for (int i = 0; i < 5; i++) {
                is("35 as told, or dark", x.lightOf(2, 59 + i), i < size ? 1 + i : 0);
            }
        }
        // The SHEET is not changed by it.
        TongueSight x = withSheet(0, 3);
        x.read(2, 1, 0, 0, 0, 64);
        is("35 read again", x.read(3, 1, 0, 0, 0, 3), 3);
        is("35 the last again", x.lightOf(3, 2), 3);
    }

    private static void promise35NotZeroToNine() {
        int[][] values = {{-1, 10, 127, -128}, {-1, 10, 256, 32767, -32768}, {-1, 10, 65536, MAX, MIN}};
        for (int lane = 0; lane < 3; lane++) {
            for (int i : new int[] {0, 1, 62, 63}) {
                for (int v : values[lane]) {
                    notALight(lane, i, v);
                }
                TongueSight x = withSheet(lane, 64);
                x.lay(1, i, 0);
                is("35 0 is LIGHT", x.read(2, 1, lane, 0, 0, 64), 64);
                x.lay(1, i, 9);
                is("35 9 is LIGHT", x.read(2, 1, lane, 0, 0, 64), 64);
                is("35 9", x.lightOf(2, i), 9);
            }
        }
    }

    private static void notALight(int lane, int i, int v) {
        Consumer<Traces.Run> past = run -> {
            Traces.MIDST.accept(run);
            run.call(x -> x.sheet(2, lane, 64));
            run.call(x -> x.lay(2, i, v));
        };
        String name = "35 CELL " + i + " is " + v + ": ";
        TRACES.refusedAfter(past, name + "nothing changes", -20 - i, x -> x.read(0, 2, lane, 0, 0, 64));
        TRACES.refusedAfter(past, name + "less i, not its place", -20, x -> x.read(5, 2, lane, i, 63, 1));
        TongueSight x = withSheet(lane, 64);
        x.lay(1, i, v);
        is(name + "those ahead of it", x.read(2, 1, lane, 0, 0, i), i);
        is(name + "those behind it", x.read(2, 1, lane, i + 1, 0, 63 - i), 63 - i);
    }

    private static void promise35TheFirstMet() {
        TongueSight x = withSheet(1, 5);
        x.lay(1, 2, 10);
        x.lay(1, 4, -1);
        is("35 the first of two", x.read(2, 1, 1, 0, 0, 5), -22);
        is("35 the second of two", x.read(2, 1, 1, 3, 0, 5), -21);
        is("35 before the end of the SHEET", x.read(2, 1, 1, 4, 0, 2), -20);
        is("36 no read() came to an end", x.torn(), 0);
        is("35 nothing changed", x.lightOf(2, 0), 8);
        is("35 below the first CELL: before what comes", x.read(2, 1, 1, -1, 0, 5), 0);
        is("36 INDEX", x.torn(), INDEX);
        is("35 another lane: before what comes", x.read(2, 1, 0, 2, 0, 5), 0);
        is("36 CAST", x.torn(), CAST);
        x.lay(1, 4, 4);
        x.lay(1, 2, 2);
        is("35 the end of the SHEET", x.read(2, 1, 1, 2, 0, 64), 3);
        is("36 INDEX", x.torn(), INDEX);
        x.lay(1, 4, 10);
        is("35 BAD before it", x.read(2, 1, 1, 4, 0, 65), BAD);
        is("35 BAD before it", x.read(6, 1, 1, 4, 0, 1), BAD);
    }

    private static void promise35NullCastIndex() {
        for (int f : new int[] {MIN, -1, 0, 63, 64, MAX}) {
            for (int lane = 0; lane < 3; lane++) {
                TongueSight x = withSheet(1, 64);
                is("35 nothing", x.read(2, 0, lane, f, 10, 2), 0);
                is("36 NULL of any lane", x.torn(), NULL_FAULT);
                is("35 dark", x.lightOf(2, 10) + x.lightOf(2, 11), 0);
                is("35 those beside stay", x.lightOf(2, 9) + x.lightOf(2, 12), 16);
                x.sheet(3, (lane + 1) % 3, 0);
                is("35 another lane without CELLS", x.read(2, 3, lane, f, 20, 1), 0);
                is("36 CAST before INDEX", x.torn(), CAST);
                x.sheet(3, (lane + 2) % 3, 64);
                is("35 another lane", x.read(2, 3, lane, f, 30, 64 - 30), 0);
                is("36 CAST", x.torn(), CAST);
                is("35 dark to the last", x.lightOf(2, 63), 0);
                x.sheet(3, lane, 0);
                is("35 this lane without CELLS", x.read(2, 3, lane, f, 0, 1), 0);
                is("36 INDEX", x.torn(), INDEX);
            }
        }
    }

    /** Nothing is touched, so that nothing is refused: whatever the SHEET, its lane and f (issue 5). */
    private static void promise35NoCells() {
        for (int k = 0; k < 4; k++) {
            for (int lane = 0; lane < 3; lane++) {
                for (int f : new int[] {MIN, -1, 0, 5, 64, MAX}) {
                    for (int c : new int[] {0, 63, 64}) {
                        int sheet = k;
                        int of = lane;
                        TRACES.same("35 no CELLS of SHEET " + k, run -> {
                            Traces.MIDST.accept(run);
                            is("35 none", run.call(x -> x.read(0, sheet, of, f, c, 0)), 0);
                            is("36 none is refused", run.call(TongueSight::torn), 0);
                        }, run -> {
                            Traces.MIDST.accept(run);
                            run.call(x -> x.read(4, 1, 1, 1, 0, 1));
                            run.call(x -> x.light(4, 0, 0));
                        }, true);
                    }
                }
            }
        }
    }

    // ---- promise 36

    private static void promise36Latest() {
        TongueSight x = new TongueSight();
        is("36 0 before a read()", x.torn(), 0);
        x.sheet(0, 0, 1);
        x.sheet(2, 2, 1);
        x.lay(2, 0, 10);
        int[][] reads = {{1, 0, 0, NULL_FAULT}, {0, 0, 1, INDEX}, {0, 1, 0, CAST}, {0, 0, 0, 0}};
        for (int[] r : reads) {
            x.read(0, r[0], r[1], r[2], 0, 1);
            is("36 FAULT " + r[3], x.torn(), r[3]);
            is("36 asked again", x.torn(), r[3]);
            is("36 BAD comes to no end", x.read(6, 0, 0, 0, 0, 1), BAD);
            is("36 FAULT " + r[3], x.torn(), r[3]);
            is("36 -20 comes to no end", x.read(0, 2, 2, 0, 0, 1), -20);
            is("36 FAULT " + r[3], x.torn(), r[3]);
            is("36 lay() is no read(): NULL", x.lay(3, 0, 0), -11);
            is("36 lay() is no read(): INDEX", x.lay(0, 1, 0), -12);
            is("36 sheet() is no read(): SIZE", x.sheet(0, 0, -1), -14);
            is("36 FAULT " + r[3], x.torn(), r[3]);
            Due.tell(x, "most 0;");
            is("36 text() is no read()", x.torn(), r[3]);
        }
        TRACES.asksOnly("36 torn() asks", TongueSight::torn);
    }

    // ---- promise 37

    private static void promise37Bounds() {
        TRACES.bounds("37 what", 0, 6, v -> x -> x.count(v));
        for (int what = 0; what <= 6; what++) {
            int w = what;
            TRACES.asksOnly("37 count() asks", x -> x.count(w));
        }
        TRACES.refusedAfter(Traces.NEW, "37 NONE: nothing", NONE, x -> x.count(6));
    }

    private static void promise37NoneAndMost() {
        TongueSight x = new TongueSight();
        int[] none = {25, 0, 0, 0, 0, 0, NONE};
        for (int what = 0; what <= 6; what++) {
            is("37 none of " + what, x.count(what), none[what]);
        }
        for (int p : new int[] {0, 24, 25}) {
            x.place(p);
            is("37 the CAMERA's PLACE", x.count(0), p);
        }
        for (int n : new int[] {0, 1, 63, 64}) {
            x.sheet(0, n % 3, n);
            is("37 CELLS of SHEET 0", x.count(6), n);
        }
        x.sheet(1, 0, 7);
        is("37 of SHEET 0 alone", x.count(6), 64);
        Traces.Run run = new Traces.Run();
        Traces.BRIM.accept(run);
        int[] most = {24, 14, 16, 12, 384, 200, 64};
        for (int what = 0; what <= 6; what++) {
            int w = what;
            is("37 the most of " + what, run.call(y -> y.count(w)), most[what]);
        }
        run.call(y -> y.kill(0, true));
        run.call(y -> y.kill(15, true));
        is("37 all are DEAD", run.call(y -> y.count(1)), 16);
        run.call(y -> y.light(0, 0, 0));
        run.call(y -> y.light(5, 63, 1));
        is("37 LIGHTS above 0", run.call(y -> y.count(4)), 383);
        run.call(TongueSight::rest);
        is("37 all are rested", run.call(y -> y.count(2)), 0);
        run.call(TongueSight::text);
        is("37 THE TAPE is empty", run.call(y -> y.count(5)), 0);
    }

    /** A refused call is tried from MIDST: it must have something of everything, or it would show no trace. */
    private static void promise37OfThePastsTried() {
        Traces.Run run = new Traces.Run();
        Traces.MIDST.accept(run);
        int[] some = {7, 2, 14, 5, 42, 23, 5};
        for (int what = 0; what <= 6; what++) {
            int w = what;
            is("37 some of " + what, run.call(x -> x.count(w)), some[what]);
        }
        is("23 KNOWS something", run.call(x -> x.head(0)), 11);
        is("5 a FAULT of a text", run.call(TongueSight::fault), 3);
        is("36 a FAULT of a read()", run.call(TongueSight::torn), INDEX);
        is("31 some MAY be DEAD", run.call(TongueSight::dead) != 0 ? 1 : 0, 1);
    }
}
