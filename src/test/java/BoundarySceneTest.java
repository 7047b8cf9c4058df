/** Promises 7 to 16 at their boundaries: scenes, the camera, points and how tired they are. */
public final class BoundarySceneTest {
    private static final int ALL = 65535;

    private static final Due DUE = new Due();
    private static final Traces TRACES = new Traces(DUE);

    public static void main(String[] args) {
        promise7Bounds();
        promise8Bounds();
        promise9Bounds();
        promise9Columns();
        promise9BecameOthers();
        promise10Bounds();
        promise11Bounds();
        promise11CanNotBe();
        promise12Bounds();
        promise12Near();
        promise12FarDividedDown();
        promise12Dark();
        promise12Edges();
        promise12Dead();
        promise12Round();
        promise12Spread();
        promise12Less();
        promise12Tire();
        promise12Least();
        promise12Most();
        promise13Bounds();
        promise13NoneAndAll();
        promise14Bounds();
        promise14NineAtMostNoneAtLeast();
        promise14OneByOne();
        promise14KnowsGrows();
        promise15Bounds();
        promise16NoneAndAll();
        DUE.end();
    }

    private static void is(String call, long got, long want) {
        DUE.is(call, got, want);
    }

    /** An object that was told a text, whose CAMERA is at PLACE 0, with all CELLS of SCENE 0 of one LIGHT. */
    private static TongueSight full(String text, int light) {
        TongueSight x = new TongueSight();
        is("told " + text, Due.tell(x, text) >= 0 ? 1 : 0, 1);
        x.place(0);
        for (int cell = 0; cell < 64; cell++) {
            x.light(0, cell, light);
        }
        return x;
    }

    /** As full(), dark but for the CELLS that POINTS have at PLACE 0. */
    private static TongueSight with(String text, int... pointsAndLights) {
        TongueSight x = new TongueSight();
        is("told " + text, Due.tell(x, text) >= 0 ? 1 : 0, 1);
        x.place(0);
        for (int i = 0; i < pointsAndLights.length; i += 2) {
            x.light(0, cellOf(pointsAndLights[i]), pointsAndLights[i + 1]);
        }
        return x;
    }

    private static int cellOf(int p) {
        return 8 * (p / 4) + p % 4;
    }

    // ---- promises 7 and 8

    private static void promise7Bounds() {
        TRACES.bounds("7 SCENE", 0, 5, v -> x -> x.light(v, 63, 9));
        TRACES.bounds("7 CELL", 0, 63, v -> x -> x.light(5, v, 9));
        TRACES.bounds("7 LIGHT", 0, 9, v -> x -> x.light(0, 0, v));
        for (int scene : new int[] {0, 5}) {
            for (int cell : new int[] {0, 63}) {
                TongueSight x = new TongueSight();
                is("7 what it was", x.light(scene, cell, 9), 0);
                is("7 what it was: 9", x.light(scene, cell, 9), 9);
                is("7 what it was: 9", x.light(scene, cell, 0), 9);
                is("7 what it was: 0", x.light(scene, cell, 1), 0);
                is("7 becomes 1", x.lightOf(scene, cell), 1);
                is("7 no other one becomes it", x.count(4), 1);
            }
        }
        TongueSight x = new TongueSight();
        x.light(0, 63, 9);
        is("7 CELL 63 of SCENE 0 is not CELL 0 of SCENE 1", x.lightOf(1, 0), 0);
    }

    private static void promise8Bounds() {
        TRACES.bounds("8 SCENE", 0, 5, v -> x -> x.lightOf(v, 0));
        TRACES.bounds("8 CELL", 0, 63, v -> x -> x.lightOf(0, v));
        TRACES.asksOnly("8 lightOf() asks", x -> x.lightOf(5, 63));
        for (int scene = 0; scene < 6; scene++) {
            TongueSight x = new TongueSight();
            for (int cell = 0; cell < 64; cell++) {
                x.light(scene, cell, (cell + scene) % 10);
            }
            for (int cell = 0; cell < 64; cell++) {
                is("8 LIGHT of a CELL", x.lightOf(scene, cell), (cell + scene) % 10);
            }
        }
    }

    // ---- promise 9

    private static void promise9Bounds() {
        TRACES.bounds("9 from", 0, 5, v -> x -> x.shift(v, 0, 1));
        TRACES.bounds("9 to", 0, 5, v -> x -> x.shift(0, v, 1));
        TRACES.bounds("9 columns", 0, 7, v -> x -> x.shift(0, 1, v));
        TRACES.bounds("9 columns of itself", 0, 7, v -> x -> x.shift(0, 0, v));
    }

    private static void promise9Columns() {
        for (int by = 0; by <= 7; by++) {
            for (int to : new int[] {0, 1, 5}) {
                TongueSight x = new TongueSight();
                for (int cell = 0; cell < 64; cell++) {
                    x.light(0, cell, 1 + cell % 9);
                }
                x.shift(0, to, by);
                for (int cell = 0; cell < 64; cell++) {
                    int comes = cell % 8 < by ? 0 : 1 + (cell - by) % 9;
                    is("9 by " + by + " to " + to + " cell " + cell, x.lightOf(to, cell), comes);
                }
                is("9 that from which they come stays", to == 0 ? 1 : x.lightOf(0, 0), 1);
                is("9 and others", x.lightOf(3, 63), 0);
            }
        }
    }

    private static void promise9BecameOthers() {
        for (int by = 0; by <= 7; by++) {
            TongueSight x = full("", 9);
            is("9 dark ones that become others, by " + by, x.shift(0, 1, by), 8 * (8 - by));
            is("9 none becomes another", x.shift(0, 1, by), 0);
            is("9 bright ones that become dark", x.shift(0, 0, by), 8 * by);
            is("9 all become dark", x.shift(5, 0, by), 8 * (8 - by));
            is("9 of a dark one itself none", x.shift(5, 5, by), 0);
        }
        TongueSight x = full("", 9);
        is("9 itself by 0", x.shift(0, 0, 0), 0);
        is("9 all 64", x.shift(0, 5, 0), 64);
    }

    // ---- promises 10 and 11

    private static void promise10Bounds() {
        TRACES.bounds("10 PLACE", 0, 25, v -> x -> x.place(v));
        TongueSight x = new TongueSight();
        int was = 25;
        for (int p : new int[] {0, 0, 4, 20, 24, 25, 25, 0}) {
            is("10 what it was", x.place(p), was);
            is("10 it becomes " + p, x.count(0), p);
            was = p;
        }
    }

    private static void promise11Bounds() {
        TRACES.bounds("11 PLACE", 0, 25, v -> x -> x.leads(v, 0));
        TRACES.bounds("11 MOVE", 0, 5, v -> x -> x.leads(12, v));
        TRACES.bounds("11 MOVE from FAR", 0, 5, v -> x -> x.leads(25, v));
        for (int move = 0; move < 6; move++) {
            int m = move;
            TRACES.asksOnly("11 leads() asks", x -> x.leads(0, m));
        }
    }

    private static void promise11CanNotBe() {
        TongueSight x = new TongueSight();
        for (int p = 0; p < 25; p++) {
            is("11 left from " + p, x.leads(p, 0), p % 5 == 0 ? p : p - 1);
            is("11 right from " + p, x.leads(p, 1), p % 5 == 4 ? p : p + 1);
            is("11 up from " + p, x.leads(p, 2), p < 5 ? p : p - 5);
            is("11 down from " + p, x.leads(p, 3), p > 19 ? p : p + 5);
            is("11 in from NEAR", x.leads(p, 4), p);
            is("11 out from NEAR", x.leads(p, 5), 25);
        }
        int[] fromFar = {25, 25, 25, 25, 12, 25};
        for (int move = 0; move < 6; move++) {
            is("11 from FAR " + move, x.leads(25, move), fromFar[move]);
        }
    }

    // ---- promise 12

    private static void promise12Bounds() {
        for (int what = 0; what <= 3; what++) {
            int w = what;
            TRACES.bounds("12 SCENE", 0, 5, v -> x -> x.point(v, 15, w));
            TRACES.bounds("12 POINT", 0, 15, v -> x -> x.point(0, v, w));
            TRACES.asksOnly("12 point() asks", x -> x.point(0, 15, w));
        }
        TRACES.bounds("12 what", 0, 3, v -> x -> x.point(0, 0, v));
    }

    private static void promise12Near() {
        TongueSight x = new TongueSight();
        for (int cell : new int[] {0, 3, 4, 7, 24, 27, 28, 31, 32, 35, 36, 39, 56, 59, 60, 63}) {
            x.light(0, cell, 1 + cell % 9);
        }
        int[] places = {0, 4, 20, 24};
        int[] corners = {0, 4, 32, 36};
        for (int i = 0; i < 4; i++) {
            x.place(places[i]);
            for (int p : new int[] {0, 3, 12, 15}) {
                int cell = corners[i] + cellOf(p);
                is("12 HAS at " + places[i] + " the CELL " + cell, x.point(0, p, 0), 1 + cell % 9);
            }
        }
    }

    private static void promise12FarDividedDown() {
        int[] sums = {0, 1, 3, 4, 5, 7, 8, 31, 32, 35, 36};
        for (int p : new int[] {0, 3, 5, 12, 15}) {
            for (int sum : sums) {
                TongueSight x = new TongueSight();
                int corner = 16 * (p / 4) + 2 * (p % 4);
                int left = sum;
                for (int cell : new int[] {corner + 9, corner + 8, corner + 1, corner}) {
                    x.light(5, cell, Math.min(9, left));
                    left -= Math.min(9, left);
                }
                is("12 FAR " + sum + " by 4", x.point(5, p, 0), sum / 4);
                is("12 FAR felt " + sum + " by 4", x.feels(5, 2), sum / 4);
            }
        }
    }

    private static void promise12Dark() {
        for (int light = 0; light <= 9; light++) {
            is("12 9 less " + light, full("way dark;", light).point(0, 15, 1), 9 - light);
            is("12 plain " + light, full("way plain;", light).point(0, 15, 1), light);
        }
    }

    private static void promise12Edges() {
        for (int p = 0; p < 16; p++) {
            TongueSight x = with("way edges;", p, 9);
            boolean last = p == 15;
            for (int q = 0; q < 16; q++) {
                boolean itself = q == p && !last;
                boolean toTheRight = q == p - 1 && p % 4 != 0;
                boolean below = q == p - 4;
                is("12 edges of " + p + " at " + q, x.point(0, q, 1), itself || toTheRight || below ? 9 : 0);
            }
        }
        for (int light : new int[] {0, 9}) {
            is("12 no edges", full("way edges;", light).feels(0, 0), 0);
        }
        is("12 without sign", with("way edges;", 0, 2, 1, 5, 4, 1).point(0, 0, 1), 3);
        is("12 without sign", with("way edges;", 0, 2, 1, 1, 4, 6).point(0, 0, 1), 4);
        is("12 the greatest", with("way edges;", 0, 9, 1, 9).point(0, 0, 1), 9);
        // POINT 3 has none to the right: CELL 4 and POINT 4 are not.
        TongueSight x = with("way edges;", 3, 5, 7, 5, 4, 9);
        x.light(0, 4, 9);
        is("12 the last column", x.point(0, 3, 1), 0);
        x = with("way edges;", 12, 5, 13, 5);
        x.light(0, 32, 9);
        is("12 the last row", x.point(0, 12, 1), 0);
        x = with("way edges;", 15, 9);
        is("12 POINT 15: 0", x.point(0, 15, 1), 0);
    }

    private static void promise12Dead() {
        for (int p = 0; p < 16; p++) {
            TongueSight x = full("most 8;spread 4;", 9);
            x.kill(p, true);
            is("12 a DEAD one HAS", x.point(0, p, 0), 9);
            is("12 a DEAD one shows 0", x.point(0, p, 1), 0);
            is("12 a DEAD one feels 0", x.point(0, p, 2), 0);
            is("12 a DEAD one HURTS not", x.point(0, p, 3), 0);
            is("12 all others feel", x.feels(0, 0), ALL & ~(1 << p));
            is("12 all others HURT", x.feels(0, 1), ALL & ~(1 << p));
        }
        TongueSight x = full("way dark;", 0);
        x.kill(0, true);
        is("12 in the dark: 0, not 9", x.point(0, 0, 1), 0);
    }

    /** POINTS to the left, to the right, above, below; -1 where the rows or columns end. */
    private static int[] beside(int p) {
        return new int[] {p % 4 > 0 ? p - 1 : -1, p % 4 < 3 ? p + 1 : -1, p > 3 ? p - 4 : -1, p < 12 ? p + 4 : -1};
    }

    private static void promise12Round() {
        for (int p = 0; p < 16; p++) {
            TongueSight x = with("round;", p, 7);
            x.kill(p, true);
            for (int next : beside(p)) {
                if (next >= 0) {
                    is("12 ROUND from " + p + " to " + next, x.point(0, next, 1), 7);
                    is("12 to no other one", x.feels(0, 0), 1 << next);
                    x.kill(next, true);
                }
            }
            is("12 all beside " + p + " are DEAD", x.feels(0, 0), 0);
        }
        TongueSight x = full("round;", 9);
        for (int p = 0; p < 16; p++) {
            x.kill(p, true);
        }
        is("12 all are DEAD", x.feels(0, 2), 0);
        x.kill(5, false);
        is("12 but one", x.feels(0, 2), 9);
        // The four around POINT 5 are DEAD and have no other one to go to before it.
        x = with("round;dead 1;dead 4;dead 6;dead 9;dead 0;dead 2;dead 8;dead 10;", 5, 1, 1, 2, 4, 3, 9, 4);
        is("12 the greater one, of several, too", x.point(0, 5, 1), 4);
        x.light(0, cellOf(5), 4);
        is("12 as great", x.point(0, 5, 1), 4);
        x.light(0, cellOf(5), 5);
        is("12 its own is the greater one", x.point(0, 5, 1), 5);
        x = with("round;dead 4;", 4, 6, 3, 0);
        is("12 not to the last of the row above", x.point(0, 3, 1), 0);
        is("12 what it would have SHOWN", with("way dark;round;dead 0;", 0, 9, 1, 8).point(0, 1, 1), 1);
        is("12 edges of a DEAD one", with("way edges;round;dead 0;", 0, 9, 1, 1, 2, 1, 5, 1).point(0, 1, 1), 9);
    }

    private static void promise12Spread() {
        // POINT 5 is dark itself and has those beside it show a sum.
        int[] sums = {0, 1, 3, 4, 5, 7, 8, 15, 16, 17, 31, 32, 33, 35, 36};
        for (int spread = 0; spread <= 4; spread++) {
            for (int sum : sums) {
                TongueSight x = with("spread " + spread + ";");
                int left = sum;
                for (int p : new int[] {4, 6, 1, 9}) {
                    x.light(0, cellOf(p), Math.min(9, left));
                    left -= Math.min(9, left);
                }
                is("12 SPREAD " + spread + " times " + sum + " by 16", x.point(0, 5, 2), spread * sum / 16);
            }
        }
        for (int p = 0; p < 16; p++) {
            int due = 1 << p;
            for (int next : beside(p)) {
                due |= next < 0 ? 0 : 1 << next;
            }
            is("12 POINTS beside " + p, with("spread 4;", p, 9).feels(0, 0), due);
        }
        TongueSight x = full("spread 4;most 9;", 9);
        is("12 18 is MOST", x.point(0, 5, 2), 9);
        is("12 18 HURTS", x.point(0, 5, 3), 1);
        // Row 3 of the first column has nothing to the left: not the last of row 2.
        x = with("spread 4;", 11, 9);
        is("12 the row's end is not beside the next row", x.point(0, 12, 2), 0);
        // Spread goes by what is SHOWN: by ROUND, too, and of a DEAD one nothing.
        x = with("spread 4;dead 5;", 5, 9);
        is("12 a DEAD one spreads nothing", x.feels(0, 2), 0);
        x = with("spread 4;round;dead 5;", 5, 9);
        is("12 what went round spreads", x.point(0, 0, 2), 2);
    }

    private static void promise12Less() {
        for (int less = 0; less <= 3; less++) {
            TongueSight x = full("less " + less + ";", 9);
            for (int row = 0; row < 4; row++) {
                is("12 LESS " + less + " row " + row, x.point(0, 4 * row + 3, 2), 9 - less * row);
            }
            x = full("less " + less + ";", 1);
            for (int row = 0; row < 4; row++) {
                is("12 below 1 is 0", x.point(0, 4 * row, 2), Math.max(0, 1 - less * row));
                is("12 below 1 HURTS not", x.point(0, 4 * row, 3), 0);
            }
        }
        is("12 far below 0 is 0", full("less 3;", 0).feels(0, 2), 0);
    }

    private static void promise12Tire() {
        for (int tire = 0; tire <= 9; tire++) {
            TongueSight x = full("tire " + tire + ";", 9);
            for (int tired = 0; tired <= 10; tired++) {
                int felt = 9 - tire * Math.min(9, tired) / 10;
                is("12 TIRE " + tire + " TIRED " + tired, x.point(0, 15, 2), felt);
                x.tenths(0, 1);
            }
        }
        // 9 less 8 is 1, which is still felt; 8 less 8 is not.
        TongueSight x = full("tire 9;", 9);
        x.tenths(0, 9);
        is("12 81 by 10", x.point(0, 0, 2), 1);
        x.light(0, 0, 8);
        is("12 0 is not felt", x.point(0, 0, 2), 0);
        x.light(0, 0, 7);
        is("12 below 0 is not felt", x.point(0, 0, 2), 0);
        // Each is divided down by itself: 15 by 16 is 0, and 9 by 10 is 0.
        x = with("spread 3;tire 9;", 0, 5, 1, 5);
        x.tenths(0, 1);
        is("12 spread and tire by themselves", x.point(0, 0, 2), 5);
    }

    private static void promise12Least() {
        for (int p : new int[] {0, 15}) {
            for (int least = 1; least <= 9; least++) {
                TongueSight x = with("least " + p + " " + least + ";");
                for (int light : new int[] {0, least - 1, least, 9}) {
                    x.light(0, cellOf(p), light);
                    is("12 LEAST " + least + " of " + light, x.point(0, p, 2), light < least ? 0 : light);
                }
            }
        }
        TongueSight x = full("least 3 9;", 8);
        is("12 LEAST is its own", x.feels(0, 0), ALL & ~8);
    }

    private static void promise12Most() {
        for (int most = 1; most <= 9; most++) {
            TongueSight x = with("most " + most + ";");
            for (int light : new int[] {0, most - 1, most, Math.min(9, most + 1), 9}) {
                x.light(0, 0, light);
                is("12 MOST " + most + " of " + light, x.point(0, 0, 2), Math.min(most, light));
                is("12 above MOST HURTS", x.point(0, 0, 3), light > most ? 1 : 0);
            }
        }
        // Above 9 by SPREAD alone.
        TongueSight x = with("spread 4;", 0, 9, 1, 3);
        is("12 9 and 12 by 16", x.point(0, 0, 3), 0);
        x.light(0, 1, 4);
        is("12 9 and 16 by 16", x.point(0, 0, 3), 1);
        is("12 is MOST", x.point(0, 0, 2), 9);
    }

    // ---- promise 13

    private static void promise13Bounds() {
        for (int what = 0; what <= 2; what++) {
            int w = what;
            TRACES.bounds("13 SCENE", 0, 5, v -> x -> x.feels(v, w));
            TRACES.asksOnly("13 feels() asks", x -> x.feels(0, w));
        }
        TRACES.bounds("13 what", 0, 2, v -> x -> x.feels(0, v));
    }

    private static void promise13NoneAndAll() {
        TongueSight x = full("", 9);
        is("13 all feel", x.feels(0, 0), ALL);
        is("13 none HURTS at MOST", x.feels(0, 1), 0);
        is("13 the greatest sum", x.feels(0, 2), 144);
        for (int what = 0; what <= 2; what++) {
            is("13 a dark one", x.feels(5, what), 0);
        }
        x = full("most 8;", 9);
        is("13 all HURT", x.feels(0, 1), ALL);
        is("13 the sum of MOST", x.feels(0, 2), 128);
        for (int p = 0; p < 16; p++) {
            x = with("most 8;", p, 9);
            is("13 bit " + p, x.feels(0, 0), 1 << p);
            is("13 bit " + p + " HURTS", x.feels(0, 1), 1 << p);
            is("13 the sum of one", x.feels(0, 2), 8);
        }
    }

    // ---- promises 14, 15, 16

    private static void promise14Bounds() {
        TRACES.bounds("14 SCENE", 0, 5, v -> x -> x.tenths(v, 1));
        TRACES.bounds("14 n", 1, 20, v -> x -> x.tenths(0, v));
        TongueSight x = full("", 9);
        is("14 one", x.tenths(0, 1), ALL);
        is("15 by 1 more", x.tired(0), 1);
        is("14 twenty", x.tenths(0, 20), ALL);
        is("14 of a dark one", x.tenths(5, 20), 0);
    }

    private static void promise14NineAtMostNoneAtLeast() {
        TongueSight x = full("", 9);
        for (int i = 1; i <= 11; i++) {
            is("14 TIRED after " + i, x.tenths(0, 1), ALL);
            is("14 9 at most, after " + i, x.tired(15), Math.min(9, i));
        }
        for (int i = 1; i <= 11; i++) {
            is("14 rested after " + i, x.tenths(1, 1), i < 9 ? ALL : 0);
            is("14 0 at least, after " + i, x.tired(15), Math.max(0, 9 - i));
        }
        x = full("", 9);
        x.tenths(0, 8);
        is("14 just less than 9", x.tired(0), 8);
        x = full("", 9);
        x.tenths(0, 9);
        is("14 just 9", x.tired(0), 9);
        x = full("", 9);
        x.tenths(0, 10);
        is("14 9 at most in one call", x.tired(0), 9);
        x.tenths(1, 9);
        is("14 just 0", x.tired(0), 0);
        x = full("dead 0;", 9);
        is("14 a DEAD one is not TIRED", x.tenths(0, 20), ALL - 1);
    }

    /** What is FELT in each TENTH goes by how TIRED it is then: n at once are n one by one. */
    private static void promise14OneByOne() {
        for (int n : new int[] {1, 2, 19, 20}) {
            TRACES.same("14 " + n + " TENTHS", run -> {
                Traces.MIDST.accept(run);
                run.call(x -> x.tenths(1, n));
            }, run -> {
                Traces.MIDST.accept(run);
                for (int i = 0; i < n; i++) {
                    run.call(x -> x.tenths(1, 1));
                }
            }, true);
        }
        // LEAST 5 of 5: it is TIRED by 2, feels 4, which is 0, and is TIRED by 1: so it goes on.
        TongueSight x = with("tire 9;least 0 5;", 0, 5);
        int[] tired = {1, 2, 1, 2, 1, 2};
        for (int t : tired) {
            x.tenths(0, 1);
            is("14 by 1 more, by 1 less", x.tired(0), t);
        }
    }

    private static void promise14KnowsGrows() {
        for (int still : new int[] {0, 1, 20}) {
            for (int n : new int[] {1, 20}) {
                TongueSight x = with("still " + still + ";");
                x.tenths(0, n);
                is("14 " + n + " times " + still, x.head(0), n * still);
            }
        }
        TongueSight x = with("still 20;");
        x.tenths(0, 20);
        x.tenths(0, 20);
        x.tenths(0, 9);
        is("14 KNOWS", x.head(0), 980);
        Due.tell(x, "still 1;");
        x.tenths(0, 18);
        is("14 just less than 999", x.head(0), 998);
        x.tenths(0, 1);
        is("14 just 999", x.head(0), 999);
        x.tenths(0, 1);
        is("14 999 at most", x.head(0), 999);
        Due.tell(x, "still 20;");
        x.tenths(0, 20);
        is("14 999 at most by many", x.head(0), 999);
        x = with("still 20;");
        x.tenths(0, 20);
        x.tenths(0, 20);
        x.tenths(0, 10);
        is("14 1000 is 999", x.head(0), 999);
    }

    private static void promise15Bounds() {
        TRACES.bounds("15 POINT", 0, 15, v -> x -> x.tired(v));
        TRACES.asksOnly("15 tired() asks", x -> x.tired(15));
        for (int p = 0; p < 16; p++) {
            TongueSight x = with("", p, 1);
            x.tenths(0, 3);
            for (int q = 0; q < 16; q++) {
                is("15 how TIRED " + q, x.tired(q), q == p ? 3 : 0);
            }
        }
    }

    private static void promise16NoneAndAll() {
        TongueSight x = full("", 9);
        is("16 none was TIRED", x.rest(), 0);
        x.tenths(0, 1);
        is("16 all were TIRED by 1", x.rest(), ALL);
        is("16 none is", x.rest(), 0);
        x.tenths(0, 20);
        is("16 all were TIRED by 9", x.rest(), ALL);
        for (int p = 0; p < 16; p++) {
            is("16 all are rested", x.tired(p), 0);
        }
        is("37 none is TIRED", x.count(2), 0);
        for (int p = 0; p < 16; p++) {
            x = with("", p, 9);
            x.tenths(0, 1);
            is("16 bit " + p, x.rest(), 1 << p);
        }
        x = with("", 0, 1);
        x.tenths(0, 20);
        Due.tell(x, "dead 0;");
        is("16 one that is DEAD now was TIRED", x.rest(), 1);
    }
}
