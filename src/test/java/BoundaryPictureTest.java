/** Promises 17 to 29 at their boundaries: one picture or two, her own hand, by ear. */
public final class BoundaryPictureTest {
    private static final int BAD = -1, NONE = -4;
    private static final int MIN = Integer.MIN_VALUE, MAX = Integer.MAX_VALUE;
    private static final int ALL_PLACES = (1 << 26) - 1;

    private static final Due DUE = new Due();
    private static final Traces TRACES = new Traces(DUE);

    public static void main(String[] args) {
        promise17Bounds();
        promise17ByOnePoint();
        promise17LeastMostDead();
        promise18Bounds();
        promise18NoneAndThereAlready();
        promise18Farthest();
        promise18LeastRow();
        promise19Bounds();
        promise19OneAndAll();
        promise19NoneWithoutMoves();
        promise19ThreeMoves();
        promise20Bounds();
        promise20NotWithThree();
        promise21Bounds();
        promise21CanNotBe();
        promise21Head();
        promise21KnowsAtMost();
        promise22Bounds();
        promise22MoreAndLess();
        promise23Bounds();
        promise23There();
        promise24Forgets();
        promise25Bounds();
        promise25TirednessAtMost12();
        promise25SixtyHours();
        promise26Bounds();
        promise26ByHalves();
        promise27Bounds();
        promise27Mask();
        promise27AboveAndBelow();
        promise28Bounds();
        promise28ByOnePoint();
        promise29Bounds();
        promise29NoneAndAll();
        DUE.end();
    }

    private static void is(String call, long got, long want) {
        DUE.is(call, got, want);
    }

    private static TongueSight told(String text, int place) {
        TongueSight x = new TongueSight();
        is("told " + text, Due.tell(x, text) >= 0 ? 1 : 0, 1);
        x.place(place);
        return x;
    }

    private static int cellOf(int p) {
        return 8 * (p / 4) + p % 4;
    }

    /** MOVES as figures to the base 6 behind a 1. */
    private static int row(int... moves) {
        int row = 1;
        for (int move : moves) {
            row = row * 6 + move;
        }
        return row;
    }

    // ---- promise 17

    private static void promise17Bounds() {
        TRACES.bounds("17 the first SCENE", 0, 5, v -> x -> x.alike(v, 0));
        TRACES.bounds("17 the second SCENE", 0, 5, v -> x -> x.alike(0, v));
        TRACES.bounds("17 both", 0, 5, v -> x -> x.alike(v, v));
        TRACES.asksOnly("17 alike() asks", x -> x.alike(0, 5));
    }

    private static void promise17ByOnePoint() {
        for (int p = 0; p < 16; p++) {
            TongueSight x = told("", 0);
            is("17 dark ones", x.alike(0, 5), 1);
            x.light(5, cellOf(p), 1);
            is("17 by POINT " + p, x.alike(0, 5), 0);
            is("17 by POINT " + p, x.alike(5, 0), 0);
            is("17 itself", x.alike(5, 5), 1);
            x.light(0, cellOf(p), 1);
            is("17 again", x.alike(0, 5), 1);
        }
        TongueSight x = told("", 25);
        x.light(1, 63, 3);
        is("17 3 by 4 from FAR", x.alike(0, 1), 1);
        x.light(1, 63, 4);
        is("17 4 by 4 from FAR", x.alike(0, 1), 0);
        x.place(23);
        is("17 beyond what it has", x.alike(0, 1), 1);
        x.place(24);
        is("17 the last CELL", x.alike(0, 1), 0);
    }

    private static void promise17LeastMostDead() {
        TongueSight x = told("least 0 5;most 8;dead 1;", 0);
        x.light(0, 0, 4);
        is("17 4 is below LEAST 5", x.alike(0, 1), 1);
        x.light(0, 0, 5);
        is("17 5 is not", x.alike(0, 1), 0);
        x.light(0, 0, 8);
        x.light(1, 0, 9);
        is("17 9 feels as 8, but HURTS", x.alike(0, 1), 1);
        x.light(0, 0, 7);
        is("17 7 does not", x.alike(0, 1), 0);
        x.light(0, 0, 9);
        x.light(0, 1, 9);
        is("17 a DEAD one does not part them", x.alike(0, 1), 1);
    }

    // ---- promise 18

    private static void promise18Bounds() {
        for (int what = 0; what <= 2; what++) {
            int w = what;
            TRACES.bounds("18 the first SCENE", 0, 5, v -> x -> x.parted(v, 0, w));
            TRACES.bounds("18 the second SCENE", 0, 5, v -> x -> x.parted(0, v, w));
            TRACES.asksOnly("18 parted() asks", x -> x.parted(0, 1, w));
        }
        TRACES.bounds("18 what", 0, 2, v -> x -> x.parted(0, 1, v));
        TRACES.refused("18 BAD before NONE", BAD, x -> x.parted(0, 0, 3));
    }

    private static void promise18NoneAndThereAlready() {
        for (int place : new int[] {0, 12, 24, 25}) {
            TongueSight x = told("", place);
            is("18 no MOVES part them", x.parted(0, 5, 0), NONE);
            is("18 no row", x.parted(0, 5, 1), NONE);
            is("18 ALIKE at all PLACES", x.parted(0, 5, 2), ALL_PLACES);
            is("18 itself", x.parted(3, 3, 0), NONE);
            for (int cell = 0; cell < 64; cell++) {
                x.light(5, cell, 4);
            }
            is("18 0: there already", x.parted(0, 5, 0), 0);
            is("18 a row without MOVES", x.parted(0, 5, 1), 1);
            is("18 ALIKE at none", x.parted(0, 5, 2), 0);
        }
        TRACES.refusedAfter(Traces.NEW, "18 NONE", NONE, x -> x.parted(0, 1, 0));
        TRACES.refusedAfter(Traces.NEW, "18 NONE", NONE, x -> x.parted(0, 1, 1));
    }

    private static void promise18Farthest() {
        int[] from = {0, 24, 4, 20};
        int[] to = {24, 0, 20, 4};
        int[] cells = {63, 0, 56, 7};
        int[] rows = {row(5, 4, 1, 1, 3, 3), row(5, 4, 0, 0, 2, 2), row(5, 4, 0, 0, 3, 3), row(5, 4, 1, 1, 2, 2)};
        for (int i = 0; i < 4; i++) {
            TongueSight x = told("", from[i]);
            x.light(1, cells[i], 1);
            is("18 six MOVES from " + from[i], x.parted(0, 1, 0), 6);
            is("18 the row from " + from[i], x.parted(0, 1, 1), rows[i]);
            is("18 ALIKE but at " + to[i], x.parted(0, 1, 2), ALL_PLACES & ~(1 << to[i]));
            x.place(to[i]);
            is("18 there already", x.parted(0, 1, 0), 0);
            is("18 PLACES are the same from there", x.parted(0, 1, 2), ALL_PLACES & ~(1 << to[i]));
        }
        TongueSight x = told("", 25);
        x.light(1, 0, 4);
        x.place(24);
        is("18 one MOVE: out", x.parted(0, 1, 0), 1);
        is("18 out", x.parted(0, 1, 1), row(5));
        is("18 PLACE 0 and FAR", x.parted(0, 1, 2), ALL_PLACES & ~1 & ~(1 << 25));
    }

    private static void promise18LeastRow() {
        // CELL 36 is had from rows 1 to 4 and columns 1 to 4: from 0 right and down, or down and right.
        TongueSight x = told("", 0);
        x.light(1, 36, 1);
        is("18 two MOVES", x.parted(0, 1, 0), 2);
        is("18 the least row of two", x.parted(0, 1, 1), row(1, 3));
        is("18 row 0, column 0 and FAR", x.parted(0, 1, 2), 31 | 1 << 5 | 1 << 10 | 1 << 15 | 1 << 20 | 1 << 25);
        // From 24 CELL 27 (rows 0 to 3, columns 0 to 3): left and up before up and left.
        x = told("", 24);
        x.light(1, 27, 1);
        is("18 left is the least", x.parted(0, 1, 1), row(0, 2));
        x = told("", 25);
        x.light(1, 18, 1);
        is("18 in", x.parted(0, 1, 1), row(4));
        is("18 only in", x.parted(0, 1, 0), 1);
    }

    // ---- promise 19

    private static void promise19Bounds() {
        for (int what = 0; what <= 1; what++) {
            int w = what;
            TRACES.bounds("19 a set, not none", 1, 63, v -> x -> x.right(v, 1, w));
            TRACES.bounds("19 m", 0, 3, v -> x -> x.right(63, v, w));
            TRACES.asksOnly("19 right() asks", x -> x.right(63, 3, w));
        }
        TRACES.bounds("19 what", 0, 1, v -> x -> x.right(63, 3, v));
        for (int set : new int[] {64 | 1, 128, 1 << 30, MIN | 1}) {
            TRACES.refused("19 no such SCENE in " + set, BAD, x -> x.right(set, 1, 0));
        }
    }

    private static void promise19OneAndAll() {
        TongueSight x = told("", 25);
        for (int m = 0; m <= 3; m++) {
            for (int scene = 0; scene < 6; scene++) {
                is("19 one is told right", x.right(1 << scene, m, 0), 1);
                is("19 one, any MOVE", x.right(1 << scene, m, 1), m == 0 ? NONE : 0);
            }
            is("19 six that are one", x.right(63, m, 0), 1);
            is("19 six that are one, any MOVE", x.right(63, m, 1), m == 0 ? NONE : 0);
        }
        for (int scene = 0; scene < 6; scene++) {
            x.light(scene, 0, scene);
        }
        x.place(0);
        for (int m = 0; m <= 3; m++) {
            is("19 six that are six", x.right(63, m, 0), 6);
            is("19 six that are six, any MOVE", x.right(63, m, 1), m == 0 ? NONE : 0);
        }
        x.light(5, 0, 4);
        is("19 six that are five", x.right(63, 0, 0), 5);
    }

    private static void promise19NoneWithoutMoves() {
        TRACES.refused("19 NONE: m 0", NONE, x -> x.right(63, 0, 1));
        TRACES.refused("19 NONE: m 0", NONE, x -> x.right(1, 0, 1));
        for (int set : new int[] {0, -1, 64, MIN, MAX}) {
            TRACES.refused("19 BAD before NONE", BAD, x -> x.right(set, 0, 1));
        }
        TRACES.refused("19 BAD before NONE", BAD, x -> x.right(1, 0, 2));
        TRACES.refused("19 BAD before NONE", BAD, x -> x.right(1, -1, 1));
    }

    private static void promise19ThreeMoves() {
        // CELL 9 is had from rows 0 and 1, columns 0 and 1: from FAR in, left, up; CELL 0 is one or two farther.
        TongueSight x = told("", 25);
        x.light(0, 9, 1);
        is("19 not with two", x.right(3, 2, 0), 1);
        is("19 with three", x.right(3, 3, 0), 2);
        is("19 the first MOVE of two is any", x.right(3, 2, 1), 0);
        is("19 the first MOVE of three", x.right(3, 3, 1), 4);
        x = told("", 12);
        x.light(0, 1, 1);
        is("19 left and up twice: three", x.right(3, 3, 0), 2);
        is("19 left first", x.right(3, 3, 1), 0);
        x = told("", 12);
        x.light(0, 0, 1);
        is("19 four are too many", x.right(3, 3, 0), 1);
        // MOVES are chosen as they come: what is left of 12 for two SCENES, what is right of it for two others.
        x = told("", 12);
        x.light(0, 17, 1);
        x.light(2, 18, 5);
        x.light(3, 18, 5);
        x.light(2, 22, 1);
        is("19 told by what is felt first", x.right(15, 1, 0), 4);
        is("19 the MOVE if SCENE 0 is there", x.right(15, 1, 1), 0);
        is("19 the MOVE if SCENE 2 is there", x.right(12, 1, 1), 1);
        x.light(0, 17, 0);
        is("19 SCENE 0 is not of the set, 1 is told at once", x.right(14, 1, 1), 0);
        // 0 and 3 are parted by right, 1 and 2 by left.
        x = told("", 12);
        x.light(0, 22, 1);
        x.light(1, 18, 5);
        x.light(2, 18, 5);
        x.light(1, 17, 1);
        is("19 if the least SCENE is there", x.right(15, 1, 1), 1);
        is("19 without it", x.right(14, 1, 1), 0);
        is("19 all are told", x.right(15, 1, 0), 4);
    }

    // ---- promise 20

    private static void promise20Bounds() {
        TRACES.bounds("20 a set, not none", 1, 63, v -> x -> x.needs(v));
        TRACES.asksOnly("20 needs() asks", x -> x.needs(63));
        TRACES.refused("20 no such SCENE", BAD, x -> x.needs(65));
    }

    private static void promise20NotWithThree() {
        // From FAR with CELL 18 in; with 17 in, left; with 9 in, left, up; with 8 four; with 0 five.
        int[] cells = {18, 17, 9, 8, 0};
        int[] needs = {1, 2, 3, NONE, NONE};
        for (int i = 0; i < cells.length; i++) {
            TongueSight x = told("", 25);
            x.light(0, cells[i], 1);
            is("20 by CELL " + cells[i], x.needs(1 | 32), needs[i]);
            is("20 one is told at once", x.needs(1), 0);
            is("20 the last one is told at once", x.needs(32), 0);
            is("20 two that are one", x.needs(6), NONE);
            x.light(0, cells[i], 4);
            is("20 0: at once from FAR", x.needs(3), 0);
        }
        TRACES.refusedAfter(Traces.NEW, "20 NONE: not with 3", NONE, x -> x.needs(63));
    }

    // ---- promise 21

    private static void promise21Bounds() {
        for (boolean own : new boolean[] {true, false}) {
            TRACES.bounds("21 SCENE", 0, 5, v -> x -> x.move(v, 4, own));
            TRACES.bounds("21 MOVE", 0, 5, v -> x -> x.move(0, v, own));
        }
    }

    private static void promise21CanNotBe() {
        int[][] none = {{0, 0}, {0, 2}, {4, 1}, {4, 2}, {20, 0}, {20, 3}, {24, 1}, {24, 3}, {12, 4}, {0, 4}, {25, 0},
            {25, 1}, {25, 2}, {25, 3}, {25, 5}};
        for (int[] n : none) {
            TongueSight x = told("own 7;led 2;", n[0]);
            for (int cell = 0; cell < 64; cell++) {
                x.light(0, cell, (cell + cell / 8) % 10);
            }
            is("21 nothing changes", x.move(0, n[1], true), 0);
            is("21 it is where it was", x.count(0), n[0]);
            is("21 an own MOVE by which nothing changes: led", x.head(0), 2);
        }
        int[][] goes = {{0, 1, 1}, {0, 3, 5}, {24, 0, 23}, {24, 2, 19}, {4, 0, 3}, {20, 2, 15}, {25, 4, 12}, {12, 5, 25}};
        for (int[] g : goes) {
            TongueSight x = told("", g[0]);
            is("21 before a dark one", x.move(5, g[1], false), 0);
            is("21 it goes to " + g[2], x.count(0), g[2]);
        }
    }

    private static void promise21Head() {
        TongueSight x = told("own 20;led 3;", 0);
        x.light(0, 4, 1);
        is("21 POINTS 3, 7, 11, 15: the first alone", x.move(0, 1, true), 8);
        is("21 own more", x.head(0), 20);
        is("21 two POINTS", x.move(0, 1, false), 4 | 8);
        is("21 by another's hand: led more", x.head(0), 23);
        is("21 before another SCENE", x.move(1, 1, true), 0);
        is("21 nothing changes: led more", x.head(0), 26);
        x = told("own 0;led 0;", 0);
        x.light(0, 4, 1);
        x.move(0, 1, true);
        x.move(0, 1, false);
        is("21 own and led 0", x.head(0), 0);
        // All that changes is below LEAST: nothing changes.
        x = told("own 20;led 3;least 3 2;", 0);
        x.light(0, 4, 1);
        is("21 what is not FELT changes not", x.move(0, 1, true), 0);
        is("21 led more", x.head(0), 3);
        // Every second column is bright: all POINTS change.
        x = told("", 0);
        for (int cell = 1; cell < 64; cell += 2) {
            x.light(0, cell, 9);
        }
        is("21 all POINTS", x.move(0, 1, true), 65535);
    }

    private static void promise21KnowsAtMost() {
        for (boolean own : new boolean[] {true, false}) {
            TongueSight x = told("still 20;", 0);
            x.light(0, 0, 9);
            x.tenths(5, 20);
            x.tenths(5, 20);
            x.tenths(5, 9);
            Due.tell(x, "own 18;led 18;");
            x.move(0, 1, own);
            is("21 just less than 999", x.head(0), 998);
            Due.tell(x, "own 1;led 1;");
            x.move(0, 0, own);
            is("21 just 999", x.head(0), 999);
            x.move(0, 1, own);
            is("21 999 at most", x.head(0), 999);
            Due.tell(x, "own 20;led 20;");
            is("21 it moves all the same", x.move(0, 0, own), 1);
            is("21 999 at most by 20", x.head(0), 999);
        }
    }

    // ---- promise 22

    private static void promise22Bounds() {
        for (int what = 0; what <= 1; what++) {
            int w = what;
            TRACES.bounds("22 SCENE", 0, 5, v -> x -> x.foretell(v, 4, w));
            TRACES.bounds("22 MOVE", 0, 5, v -> x -> x.foretell(0, v, w));
            TRACES.asksOnly("22 foretell() asks", x -> x.foretell(0, 1, w));
            TRACES.asksOnly("22 foretell() asks", x -> x.foretell(0, 5, w));
        }
        TRACES.bounds("22 what", 0, 1, v -> x -> x.foretell(0, 4, v));
    }

    private static void promise22MoreAndLess() {
        TongueSight x = told("", 0);
        for (int cell = 1; cell < 64; cell += 2) {
            x.light(0, cell, 9);
        }
        is("22 more in columns 0 and 2", x.foretell(0, 1, 0), 0x5555);
        is("22 less in columns 1 and 3", x.foretell(0, 1, 1), 0xaaaa);
        is("22 none by a MOVE that can not be", x.foretell(0, 0, 0), 0);
        is("22 none by a MOVE that can not be", x.foretell(0, 0, 1), 0);
        is("22 from FAR they are 4", x.foretell(0, 5, 0), 0x5555);
        is("22 none before a dark one", x.foretell(5, 5, 0), 0);
        // More in POINT 0 alone, by 1; as much is neither.
        x = told("", 0);
        x.light(0, 0, 4);
        x.light(0, 1, 5);
        is("22 more by 1", x.foretell(0, 1, 0), 1);
        is("22 less", x.foretell(0, 1, 1), 2);
        x.light(0, 1, 4);
        is("22 as much is not more", x.foretell(0, 1, 0), 0);
        is("22 as much is not less", x.foretell(0, 1, 1), 2);
    }

    // ---- promises 23 and 24

    private static void promise23Bounds() {
        TRACES.bounds("23 what", 0, 1, v -> x -> x.head(v));
        for (int what = 0; what <= 1; what++) {
            int w = what;
            TRACES.asksOnly("23 head() asks", x -> x.head(w));
        }
    }

    private static void promise23There() {
        for (int there : new int[] {1, 2, 40, 98, 99}) {
            TongueSight x = told("still 1;there " + there + ";", 25);
            for (int knows = 0; knows <= there + 1; knows++) {
                is("23 KNOWS", x.head(0), knows);
                is("23 there " + there + " with " + knows, x.head(1), knows >= there ? 1 : 0);
                x.tenths(0, 1);
            }
            x.forget();
            is("23 no longer THERE", x.head(1), 0);
        }
        TongueSight x = told("still 20;there 99;", 25);
        for (int i = 0; i < 3; i++) {
            x.tenths(0, 20);
        }
        is("23 THERE with 999", x.head(1), 1);
    }

    private static void promise24Forgets() {
        TongueSight x = told("still 20;", 25);
        is("24 nothing", x.forget(), 0);
        Due.tell(x, "still 1;");
        x.tenths(0, 1);
        is("24 just 1", x.forget(), 1);
        is("24 KNOWS becomes 0", x.head(0), 0);
        Due.tell(x, "still 20;");
        for (int i = 0; i < 3; i++) {
            x.tenths(0, 20);
        }
        is("24 all 999", x.forget(), 999);
        is("24 KNOWS becomes 0", x.head(0), 0);
        is("24 nothing is left", x.forget(), 0);
        TRACES.same("24 forget() again changes nothing", run -> {
            Traces.MIDST.accept(run);
            run.call(TongueSight::forget);
            run.call(TongueSight::forget);
        }, run -> {
            Traces.MIDST.accept(run);
            run.call(TongueSight::forget);
        }, true);
    }

    // ---- promise 25

    private static void lessons(String text, int hours, int busy) {
        TongueSight x = told(text, 25);
        is("25 hours: " + text, x.lessons(0), hours);
        is("25 not rest: " + text, x.lessons(1), busy);
    }

    private static void promise25Bounds() {
        TRACES.bounds("25 what", 0, 1, v -> x -> x.lessons(v));
        for (int what = 0; what <= 1; what++) {
            int w = what;
            TRACES.asksOnly("25 lessons() asks", x -> x.lessons(w));
            TRACES.refusedAfter(run -> run.tell("own 0;led 0;"), "25 NONE", NONE, x -> x.lessons(w));
            TRACES.refusedAfter(run -> run.tell("own 0;led 0;"), "25 BAD before NONE", BAD, x -> x.lessons(w + 2));
        }
        lessons("there 1;", 1, 1);
        lessons("own 20;led 20;there 1;", 1, 1);
        lessons("own 1;led 0;there 1;", 1, 1);
        lessons("own 0;led 1;there 1;", 1, 1);
        lessons("own 0;led 0;there 1;", NONE, NONE);
        lessons("own 0;led 0;there 99;", NONE, NONE);
    }

    private static void promise25TirednessAtMost12() {
        // Four own tire by just 12; a fifth one wants a rest.
        lessons("own 8;led 0;there 32;", 4, 4);
        lessons("own 8;led 0;there 33;", 6, 5);
        lessons("own 20;led 0;there 80;", 4, 4);
        lessons("own 20;led 0;there 81;", 6, 5);
        // Twelve led tire by just 12.
        lessons("own 0;led 1;there 12;", 12, 12);
        lessons("own 0;led 1;there 13;", 14, 13);
        // Three own and two led tire by 11 and make 98; four own and one led would by 13.
        lessons("own 20;led 19;there 98;", 5, 5);
        lessons("own 20;led 19;there 99;", 6, 5);
        // Own is worth no more than led.
        lessons("own 20;led 20;there 99;", 5, 5);
        lessons("own 1;led 20;there 99;", 5, 5);
    }

    private static void promise25SixtyHours() {
        // 36 own tire by 108: 24 rests; 37 would want 25.
        lessons("own 1;led 0;there 35;", 59, 35);
        lessons("own 1;led 0;there 36;", 60, 36);
        lessons("own 1;led 0;there 37;", NONE, NONE);
        lessons("own 0;led 1;there 50;", 60, 50);
        lessons("own 0;led 1;there 51;", NONE, NONE);
        lessons("own 2;led 0;there 72;", 60, 36);
        lessons("own 2;led 0;there 73;", NONE, NONE);
        lessons("own 0;led 2;there 99;", 60, 50);
        TongueSight x = told("still 20;own 1;led 0;there 37;", 25);
        x.tenths(0, 20);
        is("25 from KNOWS 0, whatever KNOWS is", x.lessons(0), NONE);
    }

    // ---- promise 26

    private static void promise26Bounds() {
        TRACES.bounds("26 POINT", 0, 15, v -> x -> x.asks(v, 9));
        TRACES.bounds("26 n", 2, 9, v -> x -> x.asks(0, v));
        TRACES.asksOnly("26 asks() asks", x -> x.asks(15, 9));
        for (int least = 3; least <= 9; least++) {
            String text = "least 0 " + least + ";least 15 " + least + ";";
            int n = least - 1;
            TRACES.refusedAfter(run -> run.tell(text), "26 its LEAST above " + n, BAD, x -> x.asks(0, n));
            TRACES.refusedAfter(run -> run.tell(text), "26 its LEAST above " + n, BAD, x -> x.asks(15, n));
            is("26 another one's LEAST", told(text, 25).asks(1, n) > 0 ? 1 : 0, 1);
        }
    }

    private static void promise26ByHalves() {
        int[][] asks = {{1, 1}, {2, 2, 1}, {2, 2, 2, 2}, {3, 3, 2, 2, 2}, {3, 3, 2, 3, 3, 2}, {3, 3, 3, 3, 3, 3, 2},
            {3, 3, 3, 3, 3, 3, 3, 3}, {4, 4, 3, 3, 3, 3, 3, 3, 3}};
        for (int n = 2; n <= 9; n++) {
            for (int least = 1; least <= n; least++) {
                TongueSight x = told("least 7 " + least + ";", 25);
                is("26 LEAST " + least + " of " + n, x.asks(7, n), asks[n - 2][least - 1]);
            }
        }
    }

    // ---- promises 27 and 28

    private static void promise27Bounds() {
        TRACES.bounds("27 SCENE", 0, 5, v -> x -> x.heard(v, 3, 3));
        TRACES.bounds("27 column", 0, 3, v -> x -> x.heard(0, v, 3));
        TRACES.bounds("27 row", 0, 3, v -> x -> x.heard(0, 3, v));
        TRACES.asksOnly("27 heard() asks", x -> x.heard(5, 3, 3));
        TongueSight x = told("", 0);
        for (int p = 0; p < 16; p++) {
            x.light(5, cellOf(p), 1 + p % 9);
        }
        for (int p = 0; p < 16; p++) {
            is("27 column " + p % 4 + " row " + p / 4, x.heard(5, p % 4, p / 4), 1 + p % 9);
        }
    }

    private static void promise27Mask() {
        for (int mask = 1; mask <= 9; mask++) {
            for (int row = 0; row < 3; row++) {
                TongueSight x = told("mask " + mask + ";", 0);
                int upper = cellOf(4 * row + 3);
                for (int loud = mask; loud <= 9; loud++) {
                    int[] quiet = {loud - mask, loud - mask + 1, loud};
                    int[] heard = {0, loud - mask + 1, loud};
                    for (int i = 0; i < 3; i++) {
                        x.light(0, upper, quiet[i]);
                        x.light(0, upper + 8, loud);
                        is("27 above one of " + loud + " by mask " + mask, x.heard(0, 3, row), heard[i]);
                        is("27 the loud one below", x.heard(0, 3, row + 1), loud);
                        x.light(0, upper, loud);
                        x.light(0, upper + 8, quiet[i]);
                        is("27 below one of " + loud + " by mask " + mask, x.heard(0, 3, row + 1), heard[i]);
                    }
                }
            }
        }
    }

    private static void promise27AboveAndBelow() {
        // Nothing is above row 0 or below row 3, and what is to the left or to the right hides nothing.
        for (int p = 0; p < 16; p++) {
            TongueSight x = told("mask 1;", 0);
            for (int q = 0; q < 16; q++) {
                x.light(0, cellOf(q), 8);
            }
            x.light(0, cellOf(p), 9);
            for (int q = 0; q < 16; q++) {
                boolean hidden = q % 4 == p % 4 && Math.abs(q - p) == 4;
                is("27 " + q + " by " + p, x.heard(0, q % 4, q / 4), q == p ? 9 : hidden ? 0 : 8);
            }
        }
        TongueSight x = told("mask 1;", 0);
        x.light(0, 0, 1);
        x.light(0, 8, 2);
        x.light(0, 16, 3);
        is("27 one that is not heard hides, too", x.heard(0, 0, 0), 0);
        x = told("mask 2;", 0);
        x.light(0, 0, 3);
        x.light(0, 8, 3);
        x.light(0, 16, 4);
        x.light(0, 24, 6);
        is("27 row 0 is not beside row 2", x.heard(0, 0, 0), 3);
        is("27 row 1 by 1", x.heard(0, 0, 1), 3);
        is("27 row 2 by 2", x.heard(0, 0, 2), 0);
    }

    private static void promise28Bounds() {
        TRACES.bounds("28 the first SCENE", 0, 5, v -> x -> x.sounds(v, 0));
        TRACES.bounds("28 the second SCENE", 0, 5, v -> x -> x.sounds(0, v));
        TRACES.asksOnly("28 sounds() asks", x -> x.sounds(0, 5));
    }

    private static void promise28ByOnePoint() {
        for (int p = 0; p < 16; p++) {
            TongueSight x = told("", 0);
            is("28 silent ones", x.sounds(0, 5), 1);
            x.light(5, cellOf(p), 1);
            is("28 by POINT " + p, x.sounds(0, 5), 0);
            is("28 itself", x.sounds(5, 5), 1);
            x.place(25);
            is("28 from FAR", x.sounds(0, 5), 1);
        }
        TongueSight x = told("mask 3;less 3;least 8 9;", 0);
        x.light(0, 0, 9);
        x.light(1, 0, 9);
        x.light(1, 8, 6);
        is("28 just hidden", x.sounds(0, 1), 1);
        x.light(1, 8, 7);
        is("28 just heard", x.sounds(0, 1), 0);
        x.light(1, 8, 0);
        x.light(1, 16, 1);
        is("28 heard, though it is not FELT", x.sounds(0, 1), 0);
        is("17 one by tongue", x.alike(0, 1), 1);
    }

    // ---- promise 29

    private static void promise29Bounds() {
        TRACES.bounds("29 what", 0, 2, v -> x -> x.beside(v));
        for (int what = 0; what <= 2; what++) {
            int w = what;
            TRACES.asksOnly("29 beside() asks", x -> x.beside(w));
        }
    }

    private static void promise29NoneAndAll() {
        TongueSight x = told("", 0);
        for (int what = 0; what <= 2; what++) {
            is("29 all 15 pairs", x.beside(what), 15);
        }
        int[] left = {10, 6, 3, 1, 0, 0};
        for (int scene = 0; scene < 6; scene++) {
            x.light(scene, 0, 1 + scene);
            for (int what = 0; what <= 2; what++) {
                is("29 pairs of those that are dark still", x.beside(what), left[scene]);
            }
        }
        x.place(25);
        is("29 from FAR: 0, 0, 0, 1, 1, 1", x.beside(0), 6);
        // By tongue all are one (LEAST 9), by ear none is.
        x = told("least 0 9;", 0);
        for (int scene = 0; scene < 6; scene++) {
            x.light(scene, 0, scene);
        }
        is("29 all by tongue", x.beside(0), 15);
        is("29 none by ear", x.beside(1), 0);
        is("29 none by both", x.beside(2), 0);
        // By ear all are one (what is hidden), by tongue none is.
        x = told("mask 1;", 0);
        for (int scene = 0; scene < 6; scene++) {
            x.light(scene, 0, scene);
            x.light(scene, 8, 9);
        }
        is("29 none by tongue", x.beside(0), 0);
        is("29 all by ear", x.beside(1), 15);
        is("29 none by both", x.beside(2), 0);
    }
}
