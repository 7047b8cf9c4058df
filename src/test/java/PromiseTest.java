/** Each promise by itself: ordinary inputs, the edges that the document names, wrong inputs. */
public final class PromiseTest {
    private static final int BAD = -1, FULL = -3, NONE = -4;
    private static final int MIN = Integer.MIN_VALUE, MAX = Integer.MAX_VALUE;
    private static final int ALL = 65535;

    private static final Due DUE = new Due();

    public static void main(String[] args) {
        newObject();
        feedAndEnd();
        texts();
        textFaults();
        textTellsAll();
        rules();
        lights();
        shifts();
        placesAndLeads();
        pointsHave();
        pointsShow();
        pointsGoRound();
        pointsBeside();
        pointsFeel();
        feelsBits();
        tenthsTire();
        alikeAndParted();
        toldRight();
        movesAndHead();
        foretells();
        lessonsHours();
        asksByHalves();
        byEar();
        besidePairs();
        answersAndDead();
        kills();
        sheetsLaid();
        sheetsRead();
        readsOfNoCells();
        counts();
        DUE.end();
    }

    private static void is(String call, long got, long want) {
        DUE.is(call, got, want);
    }

    private static void newObject() {
        TongueSight x = new TongueSight();
        for (int i = 0; i < 6; i++) {
            for (int cell = 0; cell < 64; cell++) {
                is("1 lightOf", x.lightOf(i, cell), 0);
            }
        }
        int[] first = {0, 0, 0, 0, 9, 0, 9, 8, 1, 0, 40, 0};
        for (int i = 0; i < first.length; i++) {
            is("1 rule " + i, x.rule(i), first[i]);
        }
        for (int p = 0; p < 16; p++) {
            is("1 least", x.rule(20 + p), 1);
            is("1 tired", x.tired(p), 0);
        }
        int[] counts = {25, 0, 0, 0, 0, 0, NONE};
        for (int i = 0; i < counts.length; i++) {
            is("1 count " + i, x.count(i), counts[i]);
        }
        is("1 fault", x.fault(), 0);
        is("1 torn", x.torn(), 0);
        is("1 head", x.head(0), 0);
        is("1 dead", x.dead(), 0);
        for (int k = 0; k < 4; k++) {
            is("1 lay", x.lay(k, 0, 0), -11);
        }
    }

    private static void feedAndEnd() {
        TongueSight x = new TongueSight();
        for (int i = 1; i <= 25; i++) {
            is("2 feed", x.feed(0x2020202020202020L), 8 * i);
        }
        is("2 feed full", x.feed(0), FULL);
        is("2 kept", x.count(5), 200);
        is("3 end", x.end(193), 200);
        is("2 feed over", x.feed(0), FULL);
        is("3 end same", x.end(193), 193);
        is("3 end above", x.end(194), BAD);
        is("3 end below", x.end(-1), BAD);
        is("3 end min", x.end(MIN), BAD);
        is("3 end max", x.end(MAX), BAD);
        is("3 end 192", x.end(192), 193);
        TongueSight y = new TongueSight();
        y.feed(0);
        is("3 end 0", y.end(0), 8);
        is("3 end 0 again", y.end(0), 0);
        is("2 feed again", x.feed(0x2020202020202020L), 200);
        is("4 blanks", x.text(), 0);
        is("4 empty then", x.count(5), 0);
        is("2 highest first", x.feed(0x726f756e643b2020L), 8);
        is("4 round", x.text(), 1);
        is("4 round told", x.rule(5), 1);
        x.feed(0x2020726f756e6420L);
        is("3 cut", x.end(7), 8);
        x.feed(0x3b80000000000000L);
        is("3 bytes behind the cut", x.text(), -10 - 8);
        is("5 no token", x.fault(), 1);
    }

    private static void texts() {
        TongueSight x = new TongueSight();
        is("4 all", Due.tell(x, "way dark;spread 4;less 3;tire 9;most 1;least 0 9;least 15 2;dead 3;dead 15;round;"
                + "mask 1;own 20;led 0;still 20;there 99;"), 15);
        int[] told = {1, 4, 3, 9, 1, 1, 1, 20, 0, 20, 99, 1 << 3 | 1 << 15};
        for (int i = 0; i < told.length; i++) {
            is("6 rule " + i, x.rule(i), told[i]);
        }
        is("6 least 0", x.rule(20), 9);
        is("6 least 1", x.rule(21), 1);
        is("6 least 15", x.rule(35), 2);
        is("4 without blanks", Due.tell(x, "spread02;less1;least07 09;"), 3);
        is("6 spread", x.rule(1), 2);
        is("6 least 7", x.rule(27), 9);
        is("4 many blanks", Due.tell(x, "   way   edges   ;   own 0;  "), 2);
        is("6 way", x.rule(0), 2);
        is("6 own", x.rule(7), 0);
        is("4 way plain", Due.tell(x, "way plain;there 1;"), 2);
        is("6 plain", x.rule(0), 0);
        is("4 empty", x.text(), 0);
        is("6 there again", x.rule(10), 40);
        is("4 lowest", Due.tell(x, "spread 0;less 0;tire 0;most 1;mask 1;own 0;led 0;still 0;there 1;dead 0;"
                + "least 0 1;"), 11);
        int[] lowest = {0, 0, 0, 0, 1, 0, 1, 0, 0, 0, 1, 1};
        for (int i = 0; i < lowest.length; i++) {
            is("6 lowest rule " + i, x.rule(i), lowest[i]);
        }
        is("4 highest", Due.tell(x, "most 9;mask 9;led 20;least 15 9;dead 15;"), 5);
        is("6 mask", x.rule(6), 9);
        is("6 led", x.rule(8), 20);
        StringBuilder dead = new StringBuilder();
        for (int p = 0; p < 16; p++) {
            dead.append("dead ").append(p).append(';');
        }
        is("4 sixteen dead", Due.tell(x, dead.toString()), 16);
        is("6 all dead", x.rule(11), ALL);
    }

    private static void fault(String text, int fault, int place) {
        TongueSight x = new TongueSight();
        Due.tell(x, "most 3;dead 2;least 4 4;");
        Due.feed(x, text);
        is("4 " + text, x.text(), -10 - place);
        is("5 " + text, x.fault(), fault);
        is("4 empty after " + text, x.count(5), 0);
        is("4 kept most after " + text, x.rule(4), 3);
        is("4 kept dead after " + text, x.rule(11), 4);
        is("4 kept least after " + text, x.rule(24), 4);
        is("4 kept spread after " + text, x.rule(1), 0);
        is("4 a right one after it", Due.tell(x, "round;"), 1);
        is("5 no fault after it", x.fault(), 0);
    }

    private static void textFaults() {
        fault("spread 1;Round;", 1, 9);
        fault("spread 1;\n", 1, 9);
        fault("wayy plain;", 1, 0);
        fault("wa plain;", 1, 0);
        fault("spreadspread 1;", 1, 0);
        fault("way dar;", 1, 4);
        fault("wayz plain;", 1, 0);
        fault("xay plain;", 1, 0);
        fault("way plaim;", 1, 4);
        fault("way x;", 1, 4);
        fault("spread x;", 1, 7);
        fault("round x;", 1, 6);
        fault("spread 001;", 1, 7);
        fault("123", 1, 0);
        fault("spread -1;", 1, 7);
        fault("spread 1\u00e9;", 1, 8);
        fault("5 ;", 2, 0);
        fault(";", 2, 0);
        fault("round;;", 2, 6);
        fault("plain;", 2, 0);
        fault("  edges;", 2, 2);
        fault("way spread;", 2, 4);
        fault("way 1;", 2, 4);
        fault("way;", 2, 3);
        fault("way way;", 2, 4);
        fault("way plain dark;", 2, 10);
        fault("way", 2, 3);
        fault("way  ", 2, 5);
        fault("way plain", 2, 9);
        fault("spread", 2, 6);
        fault("spread ;", 2, 7);
        fault("spread 1", 2, 8);
        fault("spread 1 1;", 2, 9);
        fault("spread 1 round;", 2, 9);
        fault("least 1;", 2, 7);
        fault("least 1 dead;", 2, 8);
        fault("least 1", 2, 7);
        fault("least 1 1 1;", 2, 10);
        fault("least;", 2, 5);
        fault("dead;", 2, 4);
        fault("dead round;", 2, 5);
        fault("round 1;", 2, 6);
        fault("round5;", 2, 5);
        String[] tooHigh = {"spread 5", "less 4", "tire 10", "most 10", "dead 16", "least 16 1", "mask 10", "own 21",
            "led 21", "still 21"};
        for (String line : tooHigh) {
            fault(line + ";", 3, line.indexOf(' ') + 1);
            fault("there 9; " + line + " Q", 3, 9 + line.indexOf(' ') + 1);
        }
        fault("most 0;", 3, 5);
        fault("mask 0;", 3, 5);
        fault("there 0;", 3, 6);
        fault("least 0 0;", 3, 8);
        fault("least 15 10;", 3, 9);
        String[] once = {"way plain", "spread 1", "less 1", "tire 1", "most 1", "round", "mask 1", "own 1", "led 1",
            "still 1", "there 1"};
        for (String line : once) {
            String name = line.split(" ")[0];
            fault(line + "; " + line + ";", 4, line.length() + 2);
            fault(line + ";" + name + "!", 4, line.length() + 1);
        }
        fault("way plain;way dark;", 4, 10);
        fault("dead 3;dead 03;", 4, 12);
        fault("least 3 1;dead 3;least 3 2;", 4, 23);
        fault("least 3 1;least 3;", 4, 16);
        fault("dead 15;dead 15", 4, 13);
        TongueSight x = new TongueSight();
        Due.feed(x, "roundrou");
        x.end(5);
        is("4 what was cut is not read", x.text(), -15);
        is("5 the end", x.fault(), 2);
        Due.feed(x, "there 99");
        x.end(7);
        x.feed(0x3b20202020202020L);
        is("4 a figure that was cut", x.text(), 1);
        is("6 nine", x.rule(10), 9);
        for (String last : new String[] {"round", "9", ";", " way", "there 123"}) {
            Due.feed(x, " ".repeat(200 - last.length()) + last);
            is("4 a full tape", x.text() <= -10 ? 1 : 0, 1);
        }
        is("4 a full tape that is right", Due.tell(x, " ".repeat(191) + "there 88;"), 1);
        is("4 not told again", Due.tell(x, "least 3 1;least 4 1;dead 3;dead 4;"), 4);
    }

    private static void textTellsAll() {
        TongueSight x = new TongueSight();
        x.light(2, 5, 7);
        x.place(3);
        x.light(1, 3, 5);
        x.tenths(1, 2);
        x.move(1, 0, true);
        x.sheet(0, 1, 7);
        x.answer(1, 2, 3, true);
        int knew = x.head(0);
        is("4 tells", Due.tell(x, "most 5;dead 1;"), 2);
        is("4 tells again", Due.tell(x, "less 1;"), 1);
        is("4 most again", x.rule(4), 9);
        is("4 dead again", x.rule(11), 0);
        is("4 scenes stay", x.lightOf(2, 5), 7);
        is("4 camera stays", x.count(0), 2);
        is("4 tired stay", x.tired(0), 2);
        is("4 knows stays", x.head(0), knew);
        is("4 sheets stay", x.count(6), 7);
        is("4 answers stay", x.count(3), 1);
    }

    private static void rules() {
        TongueSight x = new TongueSight();
        for (int what : new int[] {-1, 12, 19, 36, MIN, MAX}) {
            is("6 bad " + what, x.rule(what), BAD);
        }
        x.kill(4, true);
        is("6 dead by kill", x.rule(11), 16);
    }

    private static void lights() {
        TongueSight x = new TongueSight();
        is("7 light", x.light(5, 63, 9), 0);
        is("7 was", x.light(5, 63, 0), 9);
        is("7 was", x.light(5, 63, 4), 0);
        is("8 lightOf", x.lightOf(5, 63), 4);
        is("8 another", x.lightOf(4, 63), 0);
        is("8 another", x.lightOf(5, 62), 0);
        int[][] bad = {{-1, 0, 0}, {6, 0, 0}, {0, -1, 0}, {0, 64, 0}, {0, 0, -1}, {0, 0, 10}, {MAX, 0, 0}, {0, MIN, 0}};
        for (int[] b : bad) {
            is("7 bad", x.light(b[0], b[1], b[2]), BAD);
        }
        is("7 nothing changed", x.count(4), 1);
        is("8 bad", x.lightOf(-1, 0), BAD);
        is("8 bad", x.lightOf(6, 0), BAD);
        is("8 bad", x.lightOf(0, -1), BAD);
        is("8 bad", x.lightOf(0, 64), BAD);
    }

    private static void shifts() {
        TongueSight x = new TongueSight();
        x.light(0, 0, 1);
        x.light(0, 7, 2);
        x.light(0, 62, 3);
        x.light(1, 1, 1);
        x.light(1, 40, 8);
        is("9 shift", x.shift(0, 1, 1), 2);
        is("9 same", x.lightOf(1, 1), 1);
        is("9 moved", x.lightOf(1, 63), 3);
        is("9 gone", x.lightOf(1, 40), 0);
        is("9 not into the next row", x.lightOf(1, 8), 0);
        is("9 itself", x.shift(0, 0, 2), 4);
        is("9 itself moved", x.lightOf(0, 2), 1);
        is("9 itself 0", x.lightOf(0, 0), 0);
        is("9 itself not twice", x.lightOf(0, 4), 0);
        is("9 by 0", x.shift(0, 3, 0), 1);
        is("9 by 7", x.shift(1, 2, 7), 0);
        int[][] bad = {{-1, 0, 0}, {6, 0, 0}, {0, -1, 0}, {0, 6, 0}, {0, 0, -1}, {0, 0, 8}, {0, 0, MAX}};
        for (int[] b : bad) {
            is("9 bad", x.shift(b[0], b[1], b[2]), BAD);
        }
    }

    private static void placesAndLeads() {
        TongueSight x = new TongueSight();
        is("10 place", x.place(0), 25);
        is("10 place", x.place(24), 0);
        is("10 place", x.place(25), 24);
        is("10 bad", x.place(26), BAD);
        is("10 bad", x.place(-1), BAD);
        is("10 stays", x.count(0), 25);
        int[] steps = {-1, 1, -5, 5};
        for (int p = 0; p < 25; p++) {
            boolean[] can = {p % 5 > 0, p % 5 < 4, p > 4, p < 20};
            for (int m = 0; m < 4; m++) {
                is("11 leads " + p + " " + m, x.leads(p, m), can[m] ? p + steps[m] : p);
                is("11 far", x.leads(25, m), 25);
            }
            is("11 in", x.leads(p, 4), p);
            is("11 out", x.leads(p, 5), 25);
        }
        is("11 in from far", x.leads(25, 4), 12);
        is("11 out from far", x.leads(25, 5), 25);
        is("11 the camera stays", x.count(0), 25);
        is("11 bad", x.leads(26, 0), BAD);
        is("11 bad", x.leads(-1, 0), BAD);
        is("11 bad", x.leads(0, 6), BAD);
        is("11 bad", x.leads(0, -1), BAD);
    }

    private static void pointsHave() {
        TongueSight x = new TongueSight();
        for (int cell = 0; cell < 64; cell++) {
            x.light(3, cell, (cell * 7 + cell / 8) % 10);
        }
        for (int p = 0; p < 16; p++) {
            int c = 16 * (p / 4) + 2 * (p % 4);
            int all = x.lightOf(3, c) + x.lightOf(3, c + 1) + x.lightOf(3, c + 8) + x.lightOf(3, c + 9);
            is("12 far", x.point(3, p, 0), all / 4);
        }
        for (int place = 0; place < 25; place++) {
            x.place(place);
            for (int p = 0; p < 16; p++) {
                int cell = 8 * (place / 5 + p / 4) + place % 5 + p % 4;
                is("12 near", x.point(3, p, 0), x.lightOf(3, cell));
            }
        }
        int[][] bad = {{-1, 0, 0}, {6, 0, 0}, {0, -1, 0}, {0, 16, 0}, {0, 0, -1}, {0, 0, 4}, {MIN, MIN, MIN}};
        for (int[] b : bad) {
            is("12 bad", x.point(b[0], b[1], b[2]), BAD);
        }
    }

    private static TongueSight with(String text, int place, int... cellsAndLights) {
        TongueSight x = new TongueSight();
        is("with " + text, Due.tell(x, text) >= 0 ? 1 : 0, 1);
        x.place(place);
        for (int i = 0; i < cellsAndLights.length; i += 2) {
            x.light(0, cellsAndLights[i], cellsAndLights[i + 1]);
        }
        return x;
    }

    private static void pointsShow() {
        TongueSight x = with("way dark;", 0, 0, 9, 1, 2);
        is("12 dark 0", x.point(0, 0, 1), 0);
        is("12 dark 2", x.point(0, 1, 1), 7);
        is("12 dark 9", x.point(0, 15, 1), 9);
        x = with("way edges;", 0, 0, 9, 1, 2, 8, 5, 3, 4, 27, 8, 24, 3);
        is("12 edges right", x.point(0, 0, 1), 7);
        is("12 edges from the left is none", x.point(0, 1, 1), 2);
        is("12 edges last column", x.point(0, 3, 1), 4);
        is("12 edges below", x.point(0, 8, 1), 3);
        is("12 edges last row", x.point(0, 14, 1), 8);
        is("12 edges 15", x.point(0, 15, 1), 0);
        is("12 edges last row first", x.point(0, 12, 1), 3);
        x.kill(1, true);
        is("12 edges beside a dead one", x.point(0, 0, 1), 7);
        is("12 dead shows 0", x.point(0, 1, 1), 0);
        is("12 dead has", x.point(0, 1, 0), 2);
        x = with("way dark;dead 5;", 0);
        is("12 dead in the dark", x.point(0, 5, 1), 0);
    }

    private static void pointsGoRound() {
        // POINT p has the CELL 8 * (p / 4) + p % 4 at PLACE 0.
        TongueSight x = with("round;dead 5;", 0, 9, 6, 8, 2);
        is("12 round to the left", x.point(0, 4, 1), 6);
        is("12 the dead one", x.point(0, 5, 1), 0);
        x.kill(4, true);
        is("12 round to the right", x.point(0, 6, 1), 6);
        is("12 the second one up", x.point(0, 0, 1), 2);
        x.kill(6, true);
        is("12 round above", x.point(0, 1, 1), 6);
        x.kill(1, true);
        is("12 round below", x.point(0, 9, 1), 6);
        x.kill(9, true);
        is("12 nowhere", x.feels(0, 2), 2);
        x = with("round;dead 1;dead 4;dead 5;", 0, 0, 3, 1, 5, 8, 4);
        is("12 the greatest of several", x.point(0, 0, 1), 5);
        is("12 what it has stays", x.point(0, 0, 0), 3);
        x = with("round;dead 5;", 0, 9, 6, 8, 7);
        is("12 its own is greater", x.point(0, 4, 1), 7);
        x = with("dead 5;", 0, 9, 6, 8, 2);
        is("12 no round", x.point(0, 4, 1), 2);
        x = with("round;dead 4;", 0, 8, 6, 3, 1);
        is("12 not round the edge", x.point(0, 3, 1), 1);
        is("12 first column to the right", x.point(0, 5, 1), 6);
        x = with("round;way dark;dead 5;", 0, 8, 9);
        is("12 round in the dark", x.point(0, 4, 1), 9);
    }

    /** A lone bright POINT with SPREAD 4 is felt by those beside it; DEAD, with ROUND, by the first of them. */
    private static void pointsBeside() {
        for (int p = 0; p < 16; p++) {
            TongueSight x = with("spread 4;", 0, 8 * (p / 4) + p % 4, 9);
            int left = p % 4 > 0 ? 1 << p - 1 : 0;
            int right = p % 4 < 3 ? 1 << p + 1 : 0;
            int above = p > 3 ? 1 << p - 4 : 0;
            int below = p < 12 ? 1 << p + 4 : 0;
            is("12 beside " + p, x.feels(0, 0), 1 << p | left | right | above | below);
            x = with("round;", 0, 8 * (p / 4) + p % 4, 9);
            x.kill(p, true);
            for (int bit : new int[] {left, right, above, below}) {
                if (bit != 0) {
                    is("12 round from " + p, x.feels(0, 0), bit);
                    x.kill(Integer.numberOfTrailingZeros(bit), true);
                }
            }
            is("12 none beside " + p, x.feels(0, 0), 0);
        }
        TongueSight x = with("spread 4;", 0, 9, 4, 15, 4);
        is("12 16 by 16", x.point(0, 4, 2), 1);
        is("12 16 by 16 in the corner", x.point(0, 0, 2), 0);
        x.light(0, 9, 3);
        is("12 12 by 16", x.point(0, 4, 2), 0);
        is("12 12 by 16", x.point(0, 10, 2), 0);
        x = with("spread 4;", 0, 1, 3);
        is("12 12 by 16 in the corner", x.point(0, 0, 2), 0);
        x = with("spread 1;", 0, 0, 9, 5, 9, 8, 9, 10, 9, 1, 9, 2, 5, 17, 7);
        // POINT 5: 7, 9, 9, 9 and 9 beside it make 34 of 16.
        is("12 34 by 16", x.point(0, 5, 2), 2);
    }

    private static void pointsFeel() {
        TongueSight x = with("spread 3;", 0, 9, 5, 8, 9, 10, 4, 1, 3, 17, 2);
        // 3 times 18 by 16 is 3.
        is("12 spread", x.point(0, 5, 2), 8);
        is("12 spread to the corner", x.point(0, 15, 2), 0);
        is("12 hurts not", x.point(0, 5, 3), 0);
        // 9, and 3 times 5 by 16 is 0.
        is("12 spread down", x.point(0, 4, 2), 9);
        x = with("less 2;", 0, 0, 9, 8, 9, 16, 9, 24, 9);
        is("12 less row 0", x.point(0, 0, 2), 9);
        is("12 less row 1", x.point(0, 4, 2), 7);
        is("12 less row 3", x.point(0, 12, 2), 3);
        x = with("less 3;", 0, 24, 9);
        is("12 less to 0", x.point(0, 12, 2), 0);
        x = with("least 0 4;most 6;", 0, 0, 3);
        is("12 below least", x.point(0, 0, 2), 0);
        x.light(0, 0, 4);
        is("12 at least", x.point(0, 0, 2), 4);
        x.light(0, 0, 6);
        is("12 at most", x.point(0, 0, 2), 6);
        is("12 hurts not at most", x.point(0, 0, 3), 0);
        x.light(0, 0, 7);
        is("12 above most", x.point(0, 0, 2), 6);
        is("12 hurts", x.point(0, 0, 3), 1);
        x = with("least 0 8;most 3;", 0, 0, 7);
        is("12 least above most", x.point(0, 0, 2), 0);
        is("12 not felt hurts not", x.point(0, 0, 3), 0);
        x.light(0, 0, 8);
        is("12 least above most", x.point(0, 0, 2), 3);
        is("12 hurts", x.point(0, 0, 3), 1);
        x = with("spread 4;most 1;", 0, 0, 9, 1, 9);
        x.kill(0, true);
        is("12 dead feels 0", x.point(0, 0, 2), 0);
        is("12 dead hurts not", x.point(0, 0, 3), 0);
        is("12 living hurts", x.point(0, 1, 3), 1);
        x = with("tire 9;", 0, 0, 9);
        x.tenths(0, 1);
        is("12 tired by 1", x.point(0, 0, 2), 9);
        x.tenths(0, 1);
        is("12 tired by 2", x.point(0, 0, 2), 8);
        x.tenths(0, 7);
        is("12 tired by 9", x.point(0, 0, 2), 1);
    }

    private static void feelsBits() {
        TongueSight x = with("most 4;", 0, 0, 9, 1, 4, 27, 5, 26, 1);
        is("13 felt", x.feels(0, 0), 1 | 2 | 1 << 14 | 1 << 15);
        is("13 hurt", x.feels(0, 1), 1 | 1 << 15);
        is("13 sum", x.feels(0, 2), 4 + 4 + 4 + 1);
        is("13 another", x.feels(5, 2), 0);
        is("13 bad", x.feels(6, 0), BAD);
        is("13 bad", x.feels(-1, 0), BAD);
        is("13 bad", x.feels(0, 3), BAD);
        is("13 bad", x.feels(0, -1), BAD);
    }

    private static void tenthsTire() {
        TongueSight x = with("still 3;tire 9;least 1 5;", 0, 0, 9, 1, 5, 2, 1);
        is("14 tenths", x.tenths(0, 2), 7);
        is("15 tired", x.tired(0), 2);
        is("14 knows", x.head(0), 6);
        // POINT 1 feels 5 - 9 * 2 / 10 = 4, below its LEAST: it tires no more, and tires again when rested.
        is("14 tenths", x.tenths(0, 1), 7);
        is("15 less tired", x.tired(1), 1);
        is("15 more tired", x.tired(0), 3);
        is("14 many", x.tenths(0, 20), 7);
        is("15 nine at most", x.tired(0), 9);
        is("14 knows", x.head(0), 69);
        is("14 nothing seen", x.tenths(1, 8), 1);
        is("15 rested", x.tired(0), 1);
        is("15 zero at least", x.tired(2), 0);
        int[][] bad = {{0, 0}, {0, 21}, {0, -1}, {6, 1}, {-1, 1}, {0, MIN}};
        for (int[] b : bad) {
            is("14 bad", x.tenths(b[0], b[1]), BAD);
        }
        is("14 bad is none", x.head(0), 93);
        is("15 bad", x.tired(16), BAD);
        is("15 bad", x.tired(-1), BAD);
        is("16 rest", x.rest(), 1);
        is("16 rest again", x.rest(), 0);
        is("15 all rested", x.tired(0), 0);
        x = with("", 0, 0, 9);
        x.tenths(0, 20);
        is("15 nine at most, without tire", x.tired(0), 9);
        x.tenths(1, 8);
        is("15 one left", x.tired(0), 1);
        x = with("still 20;", 0);
        x.tenths(0, 20);
        x.tenths(0, 20);
        is("14 knows", x.head(0), 800);
        x.tenths(0, 10);
        is("14 999 at most", x.head(0), 999);
    }

    private static void alikeAndParted() {
        TongueSight x = with("", 25, 0, 1);
        x.light(1, 1, 1);
        is("17 alike", x.alike(0, 1), 1);
        is("17 itself", x.alike(0, 0), 1);
        x.place(0);
        is("17 not alike", x.alike(0, 1), 0);
        is("17 bad", x.alike(6, 0), BAD);
        is("17 bad", x.alike(0, -1), BAD);
        // They differ at PLACES 0 and 1 alone: the way from FAR is in, left, up, up.
        x.place(25);
        is("18 moves", x.parted(0, 1, 0), 4);
        is("18 row", x.parted(0, 1, 1), (((1 * 6 + 4) * 6 + 0) * 6 + 2) * 6 + 2);
        is("18 places", x.parted(0, 1, 2), (1 << 26) - 1 - 3);
        x.place(24);
        // out, in, left, up, up before seven MOVES in the small.
        is("18 moves from 24", x.parted(0, 1, 0), 5);
        is("18 row from 24", x.parted(0, 1, 1), ((((1 * 6 + 5) * 6 + 4) * 6 + 0) * 6 + 2) * 6 + 2);
        x.place(1);
        is("18 there already", x.parted(0, 1, 0), 0);
        is("18 no moves", x.parted(0, 1, 1), 1);
        is("18 none", x.parted(2, 3, 0), NONE);
        is("18 none", x.parted(2, 3, 1), NONE);
        is("18 all places", x.parted(2, 3, 2), (1 << 26) - 1);
        is("18 itself", x.parted(0, 0, 0), NONE);
        int[][] bad = {{-1, 0, 0}, {0, 6, 0}, {0, 0, 3}, {0, 0, -1}};
        for (int[] b : bad) {
            is("18 bad", x.parted(b[0], b[1], b[2]), BAD);
        }
        is("17 the camera stays", x.count(0), 1);
        x = with("tire 9;", 0, 0, 3);
        x.light(1, 0, 3);
        x.light(1, 1, 1);
        x.light(2, 1, 1);
        is("17 parted", x.alike(0, 1), 0);
        x.tenths(2, 2);
        is("17 alike when tired", x.alike(0, 1), 1);
    }

    private static void toldRight() {
        TongueSight x = new TongueSight();
        // Scenes 0 and 1 differ left of the middle, 2 and 3 right of it, pairs apart at once.
        x.light(0, 17, 1);
        x.light(2, 22, 1);
        x.light(2, 0, 9);
        x.light(3, 0, 9);
        x.place(12);
        x.light(2, 18, 5);
        x.light(3, 18, 5);
        is("19 at once", x.right(15, 0, 0), 2);
        is("19 with a move chosen as it comes", x.right(15, 1, 0), 4);
        is("19 first move of the least", x.right(15, 1, 1), 0);
        is("19 first move of the others", x.right(12, 1, 1), 1);
        is("19 none", x.right(15, 0, 1), NONE);
        is("20 needs", x.needs(15), 1);
        is("20 needs", x.needs(5), 0);
        is("20 needs one", x.needs(32), 0);
        is("20 none", x.needs(48), NONE);
        // Two of a kind stay one, whatever is done.
        is("19 all", x.right(63, 3, 0), 4);
        x.place(25);
        is("19 from far", x.right(15, 2, 0), 4);
        is("20 from far", x.needs(15), 2);
        is("19 in first", x.right(3, 2, 1), 4);
        is("19 nothing helps: the least", x.right(48, 3, 1), 0);
        int[][] bad = {{0, 0, 0}, {64, 0, 0}, {-1, 0, 0}, {1, -1, 0}, {1, 4, 0}, {1, 0, 2}, {1, 0, -1}, {0, 0, 1}};
        for (int[] b : bad) {
            is("19 bad", x.right(b[0], b[1], b[2]), BAD);
        }
        is("20 one", x.needs(1), 0);
        is("19 one", x.right(32, 3, 0), 1);
        is("19 one, any move", x.right(32, 1, 1), 0);
        is("20 bad", x.needs(0), BAD);
        is("20 bad", x.needs(64), BAD);
        is("20 bad", x.needs(MIN), BAD);
        is("19 the camera stays", x.count(0), 25);
        x = with("", 0, 0, 1);
        is("19 at place 0", x.right(63, 0, 0), 2);
        is("20 at place 0", x.needs(3), 0);
        // From the middle CELL 8 is twice left and up, CELL 9 is left and up.
        x = with("", 25, 8, 1);
        is("20 in, up and twice left is too far", x.needs(3), NONE);
        x.light(0, 9, 1);
        is("20 in, left, up", x.needs(3), 3);
        is("19 not with two", x.right(3, 2, 0), 1);
        is("19 with three", x.right(3, 3, 0), 2);
        is("19 in first", x.right(3, 3, 1), 4);
        x.place(12);
        is("20 left, up", x.needs(3), 2);
        is("19 left first", x.right(3, 2, 1), 0);
        x.light(5, 9, 1);
        is("19 the least of the set leads", x.right(32 | 2, 2, 1), 0);
        x.place(13);
        is("19 left, then left and up", x.right(32 | 2, 3, 1), 0);
        is("19 two moves do not do", x.right(32 | 2, 2, 0), 1);
        x.place(0);
        is("19 what is there is 1: not told from 2", x.right(2 | 4 | 32, 1, 1), 0);
        is("19 what is there is 5", x.right(32 | 1, 0, 0), 2);
        x.place(24);
        x.light(4, 55, 5);
        x.light(5, 55, 5);
        // 4 and 5 are one at PLACE 24, and parted by CELL 28 just above it.
        x.light(4, 28, 2);
        is("19 the least scene alone decides", x.right(48, 1, 1), 2);
        is("19 another is there", x.right(49, 1, 1), 0);
    }

    private static void movesAndHead() {
        TongueSight x = with("own 7;led 2;there 11;", 12, 18, 3);
        is("21 nothing before it", x.move(1, 0, true), 0);
        is("23 led more", x.head(0), 2);
        is("21 moved", x.count(0), 11);
        is("21 own", x.move(0, 1, true), 3);
        is("23 own more", x.head(0), 9);
        is("23 not there", x.head(1), 0);
        is("21 by another's hand", x.move(0, 0, false), 3);
        is("23 led more", x.head(0), 11);
        is("23 there", x.head(1), 1);
        x.place(0);
        is("21 can not be", x.move(0, 0, true), 0);
        is("21 stays", x.count(0), 0);
        is("23 led all the same", x.head(0), 13);
        is("21 bad", x.move(6, 0, true), BAD);
        is("21 bad", x.move(0, 6, true), BAD);
        is("21 bad", x.move(0, -1, false), BAD);
        is("21 bad changes nothing", x.head(0), 13);
        is("23 bad", x.head(2), BAD);
        is("23 bad", x.head(-1), BAD);
        is("24 forget", x.forget(), 13);
        is("24 forgotten", x.forget(), 0);
        x = with("own 20;", 12, 18, 3);
        for (int i = 0; i < 60; i++) {
            x.move(0, i % 2, true);
        }
        is("21 999 at most", x.head(0), 999);
    }

    private static void foretells() {
        TongueSight x = with("", 12, 18, 3, 19, 7);
        is("22 more by left", x.foretell(0, 0, 0), 4);
        is("22 less by left", x.foretell(0, 0, 1), 1 | 2);
        is("22 more by right", x.foretell(0, 1, 0), 1);
        is("22 less by right", x.foretell(0, 1, 1), 2);
        is("22 the camera stays", x.count(0), 12);
        is("22 nothing learnt", x.head(0), 0);
        is("22 out", x.foretell(0, 5, 0), 1 << 5);
        is("22 out less", x.foretell(0, 5, 1), 3);
        is("22 bad", x.foretell(6, 0, 0), BAD);
        is("22 bad", x.foretell(0, 6, 0), BAD);
        is("22 bad", x.foretell(0, 0, 2), BAD);
        is("22 bad", x.foretell(-1, 0, 0), BAD);
    }

    private static void lessonsHours() {
        TongueSight x = new TongueSight();
        is("25 four own, a rest, one own", x.lessons(0), 6);
        is("25 five", x.lessons(1), 5);
        x.light(0, 0, 9);
        x.move(0, 4, true);
        x.move(0, 5, true);
        is("25 from 0, whatever is known", x.lessons(0), 6);
        Due.tell(x, "own 3;led 3;there 36;");
        is("25 twelve led", x.lessons(0), 12);
        is("25 none is rest", x.lessons(1), 12);
        Due.tell(x, "own 5;led 5;there 6;");
        is("25 two", x.lessons(1), 2);
        Due.tell(x, "own 10;led 2;there 44;");
        // Six hours: four own and two led would tire by 14; five own and a rest do it.
        is("25 hours", x.lessons(0), 6);
        is("25 not rest", x.lessons(1), 5);
        Due.tell(x, "own 0;led 0;there 1;");
        is("25 none", x.lessons(0), NONE);
        is("25 none", x.lessons(1), NONE);
        Due.tell(x, "own 0;led 1;there 50;");
        // 12, then a rest for each 4: 38 more need 10 rests.
        is("25 sixty", x.lessons(0), 60);
        is("25 fifty", x.lessons(1), 50);
        Due.tell(x, "own 0;led 1;there 51;");
        is("25 not in sixty", x.lessons(0), NONE);
        Due.tell(x, "own 0;led 1;there 13;");
        is("25 above 12 after a rest", x.lessons(0), 14);
        Due.tell(x, "own 1;led 0;there 5;");
        is("25 own above 12 after a rest", x.lessons(0), 6);
        is("25 bad", x.lessons(2), BAD);
        is("25 bad", x.lessons(-1), BAD);
    }

    private static void asksByHalves() {
        TongueSight x = with("least 3 9;least 4 5;least 5 6;least 6 2;least 7 3;", 25);
        is("26 two of 9", x.asks(6, 9), 4);
        is("26 three of 9", x.asks(7, 9), 3);
        is("26 two of 2", x.asks(6, 2), 1);
        is("26 two of 4", x.asks(6, 4), 2);
        is("26 three of 3", x.asks(7, 3), 1);
        is("26 nine of 9", x.asks(3, 9), 3);
        is("26 five of 9", x.asks(4, 9), 3);
        is("26 six of 9", x.asks(5, 9), 3);
        is("26 one of 9", x.asks(0, 9), 4);
        is("26 one of 2", x.asks(0, 2), 1);
        is("26 one of 3", x.asks(0, 3), 2);
        is("26 one of 5", x.asks(0, 5), 3);
        is("26 five of 5", x.asks(4, 5), 2);
        is("26 above n", x.asks(4, 4), BAD);
        is("26 above n", x.asks(3, 8), BAD);
        int[][] bad = {{-1, 9}, {16, 9}, {0, 1}, {0, 10}, {0, MIN}};
        for (int[] b : bad) {
            is("26 bad", x.asks(b[0], b[1]), BAD);
        }
    }

    private static void byEar() {
        TongueSight x = with("mask 3;", 0, 0, 5, 8, 2, 16, 9, 24, 7, 9, 9, 1, 7);
        is("27 row 0", x.heard(0, 0, 0), 5);
        is("27 hidden from both sides", x.heard(0, 0, 1), 0);
        is("27 the loud one", x.heard(0, 0, 2), 9);
        is("27 quieter by less", x.heard(0, 0, 3), 7);
        is("27 not by the column beside", x.heard(0, 1, 1), 9);
        is("27 seven by nine", x.heard(0, 1, 0), 7);
        x.light(0, 8, 8);
        is("27 just by mask", x.heard(0, 0, 0), 0);
        x.light(0, 8, 7);
        is("27 less than mask", x.heard(0, 0, 0), 5);
        is("27 shown, not felt", with("less 3;", 0, 24, 4).heard(0, 0, 3), 4);
        is("27 dark", with("way dark;", 0, 24, 4).heard(0, 0, 3), 5);
        is("27 dead", with("dead 12;", 0, 24, 4).heard(0, 0, 3), 0);
        is("27 one that is hidden hides", with("mask 3;", 0, 8, 3, 16, 6).heard(0, 0, 0), 0);
        int[][] bad = {{-1, 0, 0}, {6, 0, 0}, {0, 4, 0}, {0, -1, 0}, {0, 0, 4}, {0, 0, -1}};
        for (int[] b : bad) {
            is("27 bad", x.heard(b[0], b[1], b[2]), BAD);
        }
        x = with("mask 3;", 0, 0, 5, 8, 2);
        x.light(1, 0, 5);
        x.light(1, 8, 1);
        is("28 sound the same", x.sounds(0, 1), 1);
        is("17 feel not the same", x.alike(0, 1), 0);
        x.light(1, 0, 6);
        is("28 sound not the same", x.sounds(0, 1), 0);
        is("28 itself", x.sounds(4, 4), 1);
        is("28 bad", x.sounds(6, 0), BAD);
        is("28 bad", x.sounds(0, -1), BAD);
    }

    private static void besidePairs() {
        TongueSight x = with("mask 3;less 3;", 0, 0, 5, 8, 5);
        x.light(1, 0, 5);
        x.light(1, 8, 4);
        x.light(2, 24, 2);
        x.light(3, 0, 5);
        x.light(3, 8, 2);
        x.light(4, 0, 5);
        // Felt: 5 and 2, 5 and 1, nothing, 5, 5, nothing. Heard: 5 5, 5 4, 2, 5 0, 5 0, nothing.
        is("29 by tongue", x.beside(0), 2);
        is("29 by ear", x.beside(1), 1);
        is("29 by both", x.beside(2), 1);
        x.light(3, 8, 3);
        is("29 by tongue", x.beside(0), 2);
        is("29 by ear", x.beside(1), 0);
        is("29 by both", x.beside(2), 0);
        x = with("mask 3;less 3;", 0);
        x.light(0, 24, 2);
        x.light(1, 24, 3);
        x.light(2, 0, 4);
        x.light(3, 0, 5);
        x.light(4, 0, 6);
        x.light(5, 0, 6);
        x.light(5, 8, 3);
        is("29 the first pair by tongue", x.beside(0), 2);
        is("29 the last pair by ear", x.beside(1), 1);
        is("29 the last pair by both", x.beside(2), 1);
        x.light(5, 8, 9);
        x.light(1, 24, 2);
        is("29 the first pair", x.beside(0), 1);
        is("29 the first pair", x.beside(1), 1);
        is("29 the first pair", x.beside(2), 1);
        x = with("mask 3;", 0);
        for (int scene = 0; scene < 6; scene++) {
            x.light(scene, scene, 9);
            x.light(scene, 27, scene);
        }
        x.light(0, 8, 5);
        x.light(1, 0, 9);
        x.light(1, 1, 0);
        x.light(1, 27, 0);
        is("29 not by tongue", x.beside(0), 0);
        is("29 by ear alone", x.beside(1), 1);
        is("29 not by both", x.beside(2), 0);
        is("29 bad", x.beside(3), BAD);
        is("29 bad", x.beside(-1), BAD);
    }

    private static void answersAndDead() {
        TongueSight x = with("tire 9;round;dead 0;least 3 4;", 25, 0, 5, 1, 3, 3, 3);
        is("30 answer", x.answer(0, 0, 0, false), 1);
        is("31 may be dead", x.dead(), 1);
        is("30 felt elsewhere", x.answer(1, 24, 1, true), 2);
        is("30 not felt", x.answer(0, 0, 1, false), 3);
        is("31 felt in one", x.dead(), 1);
        is("30 nothing to feel", x.answer(0, 0, 2, false), 4);
        is("30 below its least", x.answer(0, 0, 3, false), 5);
        is("31 these not", x.dead(), 1);
        is("30 far", x.answer(0, 25, 0, false), 6);
        is("30 felt after all", x.answer(5, 12, 0, true), 7);
        is("31 none", x.dead(), 0);
        int[][] bad = {{-1, 0, 0}, {6, 0, 0}, {0, -1, 0}, {0, 26, 0}, {0, 0, -1}, {0, 0, 16}};
        for (int[] b : bad) {
            is("30 bad", x.answer(b[0], b[1], b[2], true), BAD);
        }
        for (int i = 8; i <= 12; i++) {
            is("30 more", x.answer(0, 0, 15, false), i);
        }
        is("30 full", x.answer(0, 0, 15, false), FULL);
        is("30 bad first", x.answer(0, 0, 16, false), BAD);
        is("30 twelve", x.count(3), 12);
        is("31 with all twelve", x.dead(), 0);
        x = with("", 0, 0, 9);
        x.answer(1, 0, 1, false);
        is("31 nothing was asked of POINT 0", x.dead(), 0);
        x = with("tire 9;", 0, 0, 1);
        x.light(1, 0, 9);
        x.tenths(1, 9);
        x.answer(0, 0, 0, false);
        is("12 too tired", x.point(0, 0, 2), 0);
        is("31 as if not tired", x.dead(), 1);
        Due.tell(x, "least 0 2;");
        is("31 by the laws as they are told", x.dead(), 0);
        x = with("spread 4;dead 1;round;", 0, 1, 9);
        x.answer(0, 0, 4, false);
        x.answer(0, 0, 0, false);
        is("31 with spread, none dead", x.dead(), 1);
        Due.tell(x, "dead 1;round;");
        is("31 no round", x.dead(), 0);
    }

    private static void kills() {
        TongueSight x = with("", 0, 27, 9);
        is("32 kill", x.kill(15, true), 0);
        is("32 again", x.kill(15, true), 1);
        is("32 feels nothing", x.feels(0, 0), 0);
        is("32 not", x.kill(15, false), 1);
        is("32 feels", x.feels(0, 0), 1 << 15);
        is("32 not again", x.kill(15, false), 0);
        is("32 bad", x.kill(16, true), BAD);
        is("32 bad", x.kill(-1, true), BAD);
        is("32 none", x.count(1), 0);
    }

    private static void sheetsLaid() {
        TongueSight x = new TongueSight();
        is("33 sheet", x.sheet(0, 0, 64), 1);
        is("33 bad n", x.sheet(0, 0, 65), BAD);
        is("33 bad n", x.sheet(0, 0, MAX), BAD);
        is("33 bad k", x.sheet(4, 0, 1), BAD);
        is("33 bad k", x.sheet(-1, 0, -1), BAD);
        is("33 bad lane", x.sheet(0, 3, 1), BAD);
        is("33 bad lane first", x.sheet(0, -1, -1), BAD);
        is("33 size", x.sheet(0, 0, -1), -14);
        is("33 size", x.sheet(0, 0, MIN), -14);
        is("33 stays", x.count(6), 64);
        is("34 lay", x.lay(0, 63, 5), 1);
        is("34 index", x.lay(0, 64, 5), -12);
        is("34 index", x.lay(0, -1, 5), -12);
        is("34 null", x.lay(1, -1, 5), -11);
        is("34 bad", x.lay(4, 0, 0), BAD);
        is("34 bad", x.lay(-1, 0, 0), BAD);
        is("33 new ones are 0", x.sheet(0, 0, 64), 1);
        is("35 read", x.read(0, 0, 0, 63, 0, 1), 1);
        is("35 0", x.lightOf(0, 0), 0);
        is("33 empty", x.sheet(0, 2, 0), 1);
        is("34 index in an empty one", x.lay(0, 0, 0), -12);
        is("37 empty", x.count(6), 0);
        int[] lowest = {256 + 7, 65536 + 7, 7};
        int[] over = {256, 65536, MIN};
        for (int lane = 0; lane < 3; lane++) {
            x.sheet(2, lane, 2);
            x.lay(2, 0, lowest[lane]);
            x.lay(2, 1, over[lane] + 3);
            is("34 lowest bits", x.read(1, 2, lane, 0, 0, 2), lane == 2 ? -21 : 2);
            is("34 lowest bits", x.lightOf(1, 0), 7);
        }
        x.sheet(2, 1, 1);
        x.lay(2, 0, 256 + 7);
        is("34 a short is more than a byte", x.read(1, 2, 1, 0, 0, 1), -20);
        x.sheet(2, 2, 1);
        x.lay(2, 0, 65536 + 7);
        is("34 an int is more than a short", x.read(1, 2, 2, 0, 0, 1), -20);
    }

    private static void sheetsRead() {
        TongueSight x = new TongueSight();
        x.sheet(1, 1, 6);
        for (int i = 0; i < 6; i++) {
            x.lay(1, i, i + 1);
        }
        for (int cell = 0; cell < 64; cell++) {
            x.light(2, cell, 8);
        }
        is("35 read", x.read(2, 1, 1, 2, 10, 3), 3);
        is("36 whole", x.torn(), 0);
        int[] first = {8, 3, 4, 5, 8};
        for (int i = 0; i < first.length; i++) {
            is("35 cell", x.lightOf(2, 9 + i), first[i]);
        }
        is("35 torn", x.read(2, 1, 1, 4, 20, 5), 2);
        is("36 index", x.torn(), 2);
        int[] second = {8, 5, 6, 0, 0, 0, 8};
        for (int i = 0; i < second.length; i++) {
            is("35 dark from there", x.lightOf(2, 19 + i), second[i]);
        }
        x.lay(1, 5, 10);
        is("35 not a light", x.read(2, 1, 1, 3, 0, 5), -22);
        is("36 that did not end", x.torn(), 2);
        is("35 nothing changed", x.lightOf(2, 0), 8);
        is("35 refused before it", x.read(2, 1, 1, 6, 0, 1), 0);
        is("35 ahead of it", x.read(2, 1, 1, 0, 0, 5), 5);
        is("36 whole again", x.torn(), 0);
        is("35 cast", x.read(2, 1, 0, 0, 0, 2), 0);
        is("36 cast", x.torn(), 3);
        is("35 dark", x.lightOf(2, 1), 0);
        is("35 not dark", x.lightOf(2, 2), 3);
        is("35 cast before index", x.read(2, 1, 2, -1, 0, 2), 0);
        is("36 cast", x.torn(), 3);
        is("35 null", x.read(2, 3, 2, 99, 63, 1), 0);
        is("36 null", x.torn(), 1);
        is("35 dark", x.lightOf(2, 63), 0);
        for (int f : new int[] {-1, MIN, MAX, MAX - 2, 6}) {
            x.read(2, 1, 1, 0, 0, 0);
            is("36 0", x.torn(), 0);
            is("35 index " + f, x.read(2, 1, 1, f, 0, 5), 0);
            is("36 index", x.torn(), 2);
        }
        int[][] bad = {{-1, 1, 1, 0, 0, 1}, {6, 1, 1, 0, 0, 1}, {0, -1, 1, 0, 0, 1}, {0, 4, 1, 0, 0, 1},
            {0, 1, -1, 0, 0, 1}, {0, 1, 3, 0, 0, 1}, {0, 1, 1, 0, -1, 1}, {0, 1, 1, 0, 64, 1}, {0, 1, 1, 0, 0, 65},
            {0, 1, 1, 0, 0, -1}, {0, 1, 1, 0, 63, 2}, {0, 1, 1, 0, MAX, 1}, {0, 1, 1, 0, MAX, MAX}, {0, 1, 1, 0, 70, -10}};
        for (int[] b : bad) {
            is("35 bad", x.read(b[0], b[1], b[2], b[3], b[4], b[5]), BAD);
        }
        is("36 not by a bad one", x.torn(), 2);
        is("35 none behind the last", x.read(2, 1, 1, 0, 64, 0), 0);
        is("36 none is whole", x.torn(), 0);
        x.sheet(0, 0, 0);
        is("35 an empty one", x.read(2, 0, 0, 0, 0, 1), 0);
        is("36 index", x.torn(), 2);
        is("35 an empty one of another lane", x.read(2, 0, 1, 0, 0, 1), 0);
        is("36 cast", x.torn(), 3);
        x.sheet(0, 0, 64);
        for (int i = 0; i < 64; i++) {
            x.lay(0, i, 9);
        }
        is("35 nines", x.read(3, 0, 0, 0, 0, 64), 64);
        is("37 nines", x.count(4) >= 64 ? 1 : 0, 1);
        x.lay(0, 63, -1);
        is("35 below 0", x.read(3, 0, 0, 0, 0, 64), -83);
        is("35 dark all", x.read(3, 3, 0, 0, 0, 64), 0);
        is("35 all", x.read(2, 3, 0, 0, 0, 64), 0);
        is("37 dark", x.count(4), 0);
    }

    /** With n 0 the machine is asked for nothing: whatever the SHEET, its lane and f, no FAULT is left. */
    private static void readsOfNoCells() {
        TongueSight x = new TongueSight();
        x.light(0, 5, 7);
        x.sheet(0, 1, 0);
        x.sheet(1, 1, 6);
        x.sheet(2, 2, 1);
        x.lay(2, 0, 10);
        for (int k = 0; k < 4; k++) {
            for (int lane = 0; lane < 3; lane++) {
                for (int f : new int[] {0, -1, 6, MIN, MAX}) {
                    x.read(1, 3, 0, 0, 0, 1);
                    is("36 null", x.torn(), 1);
                    is("35 no cell", x.read(0, k, lane, f, 5, 0), 0);
                    is("36 no cell of sheet " + k + " as of lane " + lane, x.torn(), 0);
                }
            }
        }
        is("35 no cell is changed", x.lightOf(0, 5), 7);
    }

    private static void counts() {
        TongueSight x = with("dead 3;dead 4;", 7, 0, 9);
        is("37 place", x.count(0), 7);
        is("37 dead", x.count(1), 2);
        x.light(1, 10, 3);
        x.light(1, 11, 3);
        is("37 nothing tired", x.count(2), 0);
        x.tenths(1, 1);
        is("37 tired", x.count(2), 2);
        x.place(2);
        x.tenths(1, 1);
        is("37 a dead one tires not", x.count(2), 1);
        x.answer(0, 0, 0, true);
        is("37 answers", x.count(3), 1);
        x.light(5, 63, 1);
        is("37 lights", x.count(4), 4);
        x.feed(0);
        is("37 tape", x.count(5), 8);
        is("37 nothing", x.count(6), NONE);
        x.sheet(1, 0, 5);
        is("37 nothing", x.count(6), NONE);
        x.sheet(0, 2, 9);
        is("37 cells", x.count(6), 9);
        is("37 bad", x.count(7), BAD);
        is("37 bad", x.count(-1), BAD);
        is("37 bad", x.count(MIN), BAD);
    }
}
