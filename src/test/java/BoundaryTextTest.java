/** Promises 1 to 6 at their boundaries: a new object, THE TAPE, the text and what it tells. */
public final class BoundaryTextTest {
    private static final int BAD = -1, FULL = -3, NONE = -4;
    private static final int MIN = Integer.MIN_VALUE, MAX = Integer.MAX_VALUE;
    private static final int ALL = 65535;
    private static final int[] AT_FIRST = {0, 0, 0, 0, 9, 0, 9, 8, 1, 0, 40, 0};
    private static final String[] NUMBERED = {"spread", "less", "tire", "most", "mask", "own", "led", "still", "there"};
    private static final int[] RULE = {1, 2, 3, 4, 6, 7, 8, 9, 10};
    private static final int[] LOW = {0, 0, 0, 1, 1, 0, 0, 0, 1};
    private static final int[] HIGH = {4, 3, 9, 9, 9, 20, 20, 20, 99};

    private static final Due DUE = new Due();
    private static final Traces TRACES = new Traces(DUE);

    public static void main(String[] args) {
        promise1AtFirst();
        promise1SheetsHaveNothing();
        promise1ObjectsShareNothing();
        promise1FiveHundredAndTwelveCalls();
        promise2MoreThan200();
        promise2HighestFirst();
        promise3KeepsItsFirst();
        promise3Bad();
        promise4NoText();
        promise4FullTape();
        promise4EveryByte();
        promise4AsLongAsMayBe();
        promise4NamesThatAreNone();
        promise4NumbersOfOneOrTwoFigures();
        promise4NumbersInTheirBounds();
        promise4PointsInTheirBounds();
        promise4WhatCanNotStandThere();
        promise4ToldAlready();
        promise4TheFirstMet();
        promise4RefusedTellsNothing();
        promise4TakenTellsAll();
        promise5Latest();
        promise6Bounds();
        DUE.end();
    }

    private static void is(String call, long got, long want) {
        DUE.is(call, got, want);
    }

    // ---- promise 1

    private static void promise1AtFirst() {
        TongueSight x = new TongueSight();
        for (int scene : new int[] {0, 5}) {
            for (int cell : new int[] {0, 7, 8, 55, 56, 63}) {
                is("1 LIGHT 0 at first", x.lightOf(scene, cell), 0);
            }
        }
        is("1 no LIGHT", x.count(4), 0);
        is("1 the CAMERA is at 25 at first", x.count(0), 25);
        is("1 what it was at first", x.place(0), 25);
        is("1 nobody is TIRED", x.count(2), 0);
        is("1 POINT 0 is not TIRED", x.tired(0), 0);
        is("1 POINT 15 is not TIRED", x.tired(15), 0);
        is("1 nobody to rest", x.rest(), 0);
        is("1 KNOWS 0 at first", x.head(0), 0);
        is("1 not THERE at first", x.head(1), 0);
        is("1 nothing to forget", x.forget(), 0);
        is("1 no ANSWERS", x.count(3), 0);
        is("1 nobody MAY be DEAD", x.dead(), 0);
        is("1 nobody is DEAD", x.count(1), 0);
        is("1 THE TAPE is empty", x.count(5), 0);
        is("1 nothing to cut", x.end(0), 0);
        is("1 no FAULT of a text", x.fault(), 0);
        is("1 no FAULT of a read()", x.torn(), 0);
        atFirst("1", x);
    }

    private static void atFirst(String promise, TongueSight x) {
        for (int what = 0; what < 12; what++) {
            is(promise + " rule " + what + " if it is not told", x.rule(what), AT_FIRST[what]);
        }
        for (int p = 0; p < 16; p++) {
            is(promise + " LEAST 1, if it is not told", x.rule(20 + p), 1);
        }
    }

    private static void promise1SheetsHaveNothing() {
        for (int k = 0; k < 4; k++) {
            for (int lane = 0; lane < 3; lane++) {
                TongueSight x = new TongueSight();
                is("1 SHEETS have nothing", x.lay(k, 0, 0), -11);
                is("1 nothing is read", x.read(0, k, lane, 0, 0, 1), 0);
                is("1 NULL", x.torn(), 1);
                is("1 CELLS of SHEET 0", x.count(6), NONE);
            }
        }
    }

    private static void promise1ObjectsShareNothing() {
        TRACES.same("1 as told at first, whatever another object was told", run -> Traces.MIDST.accept(new Traces.Run()),
                Traces.NEW, true);
    }

    private static void promise1FiveHundredAndTwelveCalls() {
        TongueSight x = new TongueSight();
        for (int i = 0; i < 170; i++) {
            is("1 a call of 512", x.feed(0x726f756e643b2020L), 8);
            is("1 a call of 512", x.text(), 1);
            is("1 a call of 512", x.rule(5), 1);
        }
        is("1 the last but one of 512 calls", x.place(3), 25);
        is("1 the last of 512 calls", x.count(0), 3);
    }

    // ---- promise 2

    private static TongueSight withTape(int bytes) {
        TongueSight x = new TongueSight();
        for (int i = 0; i < bytes; i += 8) {
            x.feed(0x2020202020202020L);
        }
        x.end(bytes);
        return x;
    }

    private static void promise2MoreThan200() {
        for (int had = 0; had <= 200; had++) {
            TongueSight x = withTape(had);
            int has = had <= 192 ? had + 8 : had;
            is("2 FULL: more than 200, from " + had, x.feed(0), had <= 192 ? has : FULL);
            is("2 how many it has, from " + had, x.count(5), has);
            is("2 refused again, from " + had, has == 200 ? x.feed(-1) : FULL, FULL);
        }
        for (int had : new int[] {193, 199, 200}) {
            String text = "most 5;" + " ".repeat(had - 14) + "less 2;";
            for (long v : new long[] {0, -1, Long.MIN_VALUE, Long.MAX_VALUE}) {
                TRACES.refusedAfter(run -> run.feed(text), "2 FULL from " + had, FULL, x -> x.feed(v));
            }
        }
        TRACES.refusedAfter(Traces.BRIM, "2 FULL from 200", FULL, x -> x.feed(0x3b3b3b3b3b3b3b3bL));
    }

    private static void promise2HighestFirst() {
        for (int i = 0; i < 8; i++) {
            for (int b : new int[] {0, 31, 33, 127, 128, 255}) {
                TongueSight x = new TongueSight();
                long other = (long) (b ^ ' ') << 56 - 8 * i;
                is("2 eight bytes", x.feed(0x2020202020202020L ^ other), 8);
                is("2 the highest first: byte " + b, x.text(), -10 - i);
                is("2 no TOKEN", x.fault(), 1);
            }
        }
        for (long v : new long[] {0, -1, Long.MIN_VALUE, Long.MAX_VALUE}) {
            TongueSight x = new TongueSight();
            is("2 any eight bytes", x.feed(v), 8);
            is("2 its first byte", x.text(), -10);
        }
    }

    // ---- promise 3

    private static void promise3KeepsItsFirst() {
        for (int had : new int[] {0, 1, 7, 8, 9, 192, 193, 199, 200}) {
            for (int n : new int[] {0, 1, had - 1, had}) {
                if (n >= 0 && n <= had) {
                    TongueSight x = withTape(had);
                    is("3 how many it had", x.end(n), had);
                    is("3 it keeps " + n, x.count(5), n);
                    is("3 how many it had then", x.end(n), n);
                }
            }
        }
        TongueSight x = new TongueSight();
        Due.feed(x, "there 99;");
        is("3 all but the last byte", x.end(8), 9);
        is("3 its first 8 bytes are read", x.text(), -18);
        Due.feed(x, "there 99;");
        x.end(7);
        Due.feed(x, ";");
        is("3 bytes come behind those that it keeps", x.text(), 1);
        is("3 of 99 it keeps 9", x.rule(10), 9);
        Due.feed(x, "plain");
        is("3 nothing is kept", x.end(0), 5);
        is("3 an empty text", x.text(), 0);
    }

    private static void promise3Bad() {
        for (int n : new int[] {-1, MIN, MAX, 201}) {
            TRACES.refused("3 end " + n, BAD, x -> x.end(n));
        }
        TRACES.refusedAfter(Traces.NEW, "3 one more than the empty TAPE has", BAD, x -> x.end(1));
        TRACES.refusedAfter(Traces.MIDST, "3 one more than it has", BAD, x -> x.end(24));
        for (int had : new int[] {0, 1, 8, 199}) {
            is("3 one more than " + had, withTape(had).end(had + 1), BAD);
        }
    }

    // ---- promise 4

    /** A text on a new object: its answer, its FAULT, and that THE TAPE is empty then. */
    private static TongueSight text(String text, int answer, int fault) {
        TongueSight x = new TongueSight();
        Due.feed(x, text);
        String shortly = text.length() > 40 ? text.substring(0, 40) + ".." : text;
        is("4 <" + shortly + ">", x.text(), answer);
        is("5 <" + shortly + ">", x.fault(), fault);
        is("4 THE TAPE (empty then)", x.count(5), 0);
        if (fault != 0) {
            atFirst("4 <" + shortly + ">: that which was told stays:", x);
        }
        return x;
    }

    private static TongueSight taken(String text, int lines) {
        return text(text, lines, 0);
    }

    private static void fault(String text, int fault, int place) {
        text(text, -10 - place, fault);
    }

    private static void promise4NoText() {
        atFirst("4", taken("", 0));
        atFirst("4", taken(" ", 0));
        atFirst("4", taken(" ".repeat(200), 0));
        TongueSight x = taken("most 3;dead 0;dead 15;least 0 9;round;", 5);
        is("4 an empty THE TAPE tells all", x.text(), 0);
        atFirst("4", x);
        is("5 no FAULT", x.fault(), 0);
    }

    private static void promise4FullTape() {
        is("4 the last byte is read", taken(" ".repeat(191) + "there 88;", 1).rule(10), 88);
        is("4 the first byte is read", taken("there 88;" + " ".repeat(191), 1).rule(10), 88);
        fault(" ".repeat(199) + ";", 2, 199);
        fault(" ".repeat(199) + "A", 1, 199);
        fault(" ".repeat(199) + "a", 1, 199);
        fault(" ".repeat(195) + "round", 2, 200);
        fault(" ".repeat(197) + "way", 2, 200);
        fault(" ".repeat(191) + "spread  4", 2, 200);
        fault("round" + " ".repeat(195), 2, 200);
        fault("a".repeat(200), 1, 0);
        fault("9".repeat(200), 1, 0);
        fault(";".repeat(200), 2, 0);
        fault("spread" + "0".repeat(194), 1, 6);
        StringBuilder lines = new StringBuilder();
        for (int p = 0; p < 16; p++) {
            lines.append("dead").append(p).append(';');
        }
        for (int p = 0; p < 10; p++) {
            lines.append("least").append(p).append(" 9;");
        }
        TongueSight x = taken(lines.append("round;").toString(), 27);
        is("4 all POINTS are DEAD", x.rule(11), ALL);
        is("4 the tenth LEAST", x.rule(29), 9);
        is("4 ROUND", x.rule(5), 1);
    }

    /** Each of the 256 bytes alone, behind a NAME and behind a NUMBER. */
    private static void promise4EveryByte() {
        for (int b = 0; b < 256; b++) {
            boolean letter = b >= 'a' && b <= 'z';
            boolean figure = b >= '0' && b <= '9';
            char c = (char) b;
            String name = "round" + c;
            String number = "there 4" + c;
            if (b == ' ') {
                taken("" + c, 0);
                fault(name, 2, 6);
                fault(number, 2, 8);
            } else if (b == ';') {
                fault("" + c, 2, 0);
                taken(name, 1);
                taken(number, 1);
            } else {
                fault("" + c, figure ? 2 : 1, 0);
                fault(name, figure ? 2 : 1, letter ? 0 : 5);
                fault(number, figure ? 2 : 1, figure ? 8 : 7);
            }
        }
    }

    private static void promise4AsLongAsMayBe() {
        taken("round;way plain;", 2);
        fault("roun;", 1, 0);
        fault("rounds;", 1, 0);
        fault("roundway plain;", 1, 0);
        fault("wayplain;", 1, 0);
        fault("ro und;", 1, 0);
        is("4 a NAME ends where a figure stands", taken("spread4;", 1).rule(1), 4);
        is("4 a NUMBER ends where a NAME stands", text("spread4round;", -17, 2).rule(1), 0);
        fault("least 1 23 ;", 3, 8);
        is("4 blanks between two NUMBERS", taken("least 1 2;", 1).rule(21), 2);
        fault("least 12;", 2, 8);
        is("4 a NUMBER of two figures, not two NUMBERS", taken("least 12 3;", 1).rule(32), 3);
        taken("round ;", 1);
        taken(" round;", 1);
    }

    /** Each NAME with one letter less, one more, or another one: where it begins a line and behind way. */
    private static void promise4NamesThatAreNone() {
        String[] names = {"way", "spread", "less", "tire", "most", "least", "dead", "round", "mask", "own", "led",
            "still", "there", "plain", "dark", "edges"};
        for (String name : names) {
            none(name.substring(1));
            none(name.substring(0, name.length() - 1));
            none("a" + name);
            none(name + "z");
            for (int i = 0; i < name.length(); i++) {
                char other = name.charAt(i) == 'z' ? 'a' : (char) (name.charAt(i) + 1);
                none(name.substring(0, i) + other + name.substring(i + 1));
            }
        }
    }

    private static void none(String name) {
        fault(name, 1, 0);
        fault("way " + name + ";", 1, 4);
        fault("round;" + name + " 1;", 1, 6);
    }

    private static void promise4NumbersOfOneOrTwoFigures() {
        is("4 one figure", taken("spread 3;", 1).rule(1), 3);
        is("4 two figures", taken("spread 03;", 1).rule(1), 3);
        fault("spread 003;", 1, 7);
        fault("spread 000;", 1, 7);
        is("4 two figures", taken("there 99;", 1).rule(10), 99);
        fault("there 100;", 1, 6);
        is("4 two figures of 0", taken("own 00;", 1).rule(7), 0);
        is("4 two figures of a POINT", taken("dead 00;", 1).rule(11), 1);
        fault("dead 000;", 1, 5);
        is("4 two figures of a LEAST", taken("least 00 01;", 1).rule(20), 1);
        fault("least 0 001;", 1, 8);
        fault("least 000 1;", 1, 6);
        // Its value wraps around to 1 in an int.
        fault("spread 4294967297;", 1, 7);
        fault("1", 2, 0);
        fault("12", 2, 0);
        fault("123", 1, 0);
    }

    private static void promise4NumbersInTheirBounds() {
        for (int i = 0; i < NUMBERED.length; i++) {
            for (int n = 0; n <= 99; n++) {
                String line = NUMBERED[i] + " " + n + ";";
                if (n >= LOW[i] && n <= HIGH[i]) {
                    is("6 " + line, taken(line, 1).rule(RULE[i]), n);
                } else {
                    fault(line, 3, NUMBERED[i].length() + 1);
                }
            }
        }
    }

    private static void promise4PointsInTheirBounds() {
        for (int n = 0; n <= 99; n++) {
            String dead = "dead " + n + ";";
            String least = "least " + n + " 9;";
            String strength = "least 15 " + n + ";";
            if (n <= 15) {
                is("6 " + dead, taken(dead, 1).rule(11), 1 << n);
                is("6 " + least, taken(least, 1).rule(20 + n), 9);
            } else {
                fault(dead, 3, 5);
                fault(least, 3, 6);
            }
            if (n >= 1 && n <= 9) {
                is("6 " + strength, taken(strength, 1).rule(35), n);
            } else {
                fault(strength, 3, 9);
            }
        }
    }

    private static void promise4WhatCanNotStandThere() {
        String[] lines = {"way plain", "way dark", "way edges", "spread 0", "less 0", "tire 0", "most 1", "least 0 1",
            "dead 0", "round", "mask 1", "own 0", "led 0", "still 0", "there 1"};
        for (String line : lines) {
            taken(line + ";", 1);
            taken(line + " ; ", 1);
            fault(line, 2, line.length());
            fault(line + "  ", 2, line.length() + 2);
            fault(line + ";;", 2, line.length() + 1);
            fault(line + " 0;", 2, line.length() + 1);
            fault(line + " round;", 2, line.length() + 1);
            String name = line.split(" ")[0];
            if (!name.equals("round")) {
                fault(name, 2, name.length());
                fault(name + ";", 2, name.length());
                fault(name + " round;", 2, name.length() + 1);
            }
            if (!name.equals("way") && !name.equals("round")) {
                fault(name + " plain;", 2, name.length() + 1);
            }
        }
        for (String name : new String[] {"plain", "dark", "edges"}) {
            fault(name + ";", 2, 0);
            fault("round;" + name, 2, 6);
        }
        fault("way 0;", 2, 4);
        fault("least 0;", 2, 7);
        fault("least 0 dead;", 2, 8);
    }

    private static void promise4ToldAlready() {
        String[] once = {"way plain", "spread 0", "less 0", "tire 0", "most 9", "round", "mask 9", "own 8", "led 1",
            "still 0", "there 40"};
        for (String line : once) {
            // What is told as it is at first is told, too.
            fault(line + ";" + line + ";", 4, line.length() + 1);
            for (String other : once) {
                if (other != line) {
                    taken(line + ";" + other + ";", 2);
                    fault(line + ";" + other + ";" + line + ";", 4, line.length() + other.length() + 2);
                }
            }
        }
        for (int p = 0; p < 16; p++) {
            String dead = "dead " + p + ";";
            String least = "least " + p + " 1;";
            fault(dead + dead, 4, dead.length() + 5);
            fault(least + least, 4, least.length() + 6);
            taken(dead + least, 2);
            taken(dead + "dead " + (p + 1) % 16 + ";", 2);
            taken(least + "least " + (p + 1) % 16 + " 1;", 2);
        }
        TongueSight x = taken("way dark;dead 3;least 3 3;", 3);
        is("4 told already by this text alone", Due.tell(x, "way dark;dead 3;least 3 3;"), 3);
        Due.tell(x, "way edges;most 0;");
        is("4 not by one that was refused", Due.tell(x, "way dark;dead 3;least 3 3;"), 3);
        x.kill(7, true);
        is("4 not by kill()", Due.tell(x, "dead 7;"), 1);
    }

    private static void promise4TheFirstMet() {
        // Of two FAULTS that which stands ahead, and of one TOKEN the first kind that fits.
        fault("most 0;A", 3, 5);
        fault("A most 0;", 1, 0);
        fault("spread 5 5;", 3, 7);
        fault("spread A;", 1, 7);
        fault("spread x;", 1, 7);
        fault("spread 999;", 1, 7);
        fault("round;round A", 4, 6);
        fault("round;A round;", 1, 6);
        fault("spread 1;spread 5;", 4, 9);
        fault("spread 1;spread;", 4, 9);
        fault("way plain;way A", 4, 10);
        fault("dead 1;dead 1 A", 4, 12);
        fault("dead 1;dead 16;", 3, 12);
        fault("least 1 1;least 1 0;", 4, 16);
        fault("least 1 1;least 16 0;", 3, 16);
        fault("least 1 1;least 2 0;", 3, 18);
        fault("least 16 A", 3, 6);
        fault("plain A", 2, 0);
        fault("5 A", 2, 0);
        fault("; A", 2, 0);
        fault("way 1 A", 2, 4);
        fault("way round", 2, 4);
    }

    private static void promise4RefusedTellsNothing() {
        String[] wrong = {"A", "rounds;", "spread 001;", ";", "way dark", "round", "most 3;less 3;spread 5;",
            "way edges;way dark;", "dead 0;dead 1;dead 0;", "least 0 9;least 1 9;least 0 1;", "there 0;",
            "way edges;spread 4;less 3;tire 9;most 1;round;mask 1;own 20;led 20;still 20;there 1;dead 2;least 2 5;!"};
        for (String text : wrong) {
            for (java.util.function.Consumer<Traces.Run> past : java.util.List.of(Traces.NEW, Traces.MIDST)) {
                TRACES.same("4 that which was told stays, but THE TAPE: " + text, run -> {
                    past.accept(run);
                    run.call(x -> x.end(0));
                    is("4 refused: " + text, run.tell(text) <= -10 ? 1 : 0, 1);
                }, run -> {
                    past.accept(run);
                    run.call(x -> x.end(0));
                }, false);
            }
        }
        TRACES.same("4 refused with a full TAPE", run -> {
            Traces.BRIM.accept(run);
            run.call(x -> x.end(199));
            is("4 the end is missing", run.call(TongueSight::text), -10 - 199);
        }, run -> {
            Traces.BRIM.accept(run);
            run.call(x -> x.end(0));
        }, false);
    }

    private static void promise4TakenTellsAll() {
        TRACES.same("4 SCENES, the CAMERA, TIRED stay; what is not told is as at first", run -> {
            Traces.MIDST.accept(run);
            run.call(x -> x.end(0));
            run.call(TongueSight::text);
        }, run -> {
            Traces.MIDST.accept(run);
            run.call(x -> x.end(0));
            run.tell("way plain;spread 0;less 0;tire 0;most 9;mask 9;own 8;led 1;still 0;there 40;least 3 1;");
        }, true);
        Traces.Run run = new Traces.Run();
        Traces.MIDST.accept(run);
        int place = run.call(x -> x.count(0));
        int tired = run.call(x -> x.count(2));
        int lit = run.call(x -> x.count(4));
        is("4 MIDST has a PLACE, TIRED ones and LIGHT", place < 25 && tired > 0 && lit > 0 ? 1 : 0, 1);
        run.call(x -> x.end(0));
        is("4 taken", run.call(TongueSight::text), 0);
        is("4 the CAMERA stays", run.call(x -> x.count(0)), place);
        is("4 TIRED stay", run.call(x -> x.count(2)), tired);
        is("4 SCENES stay", run.call(x -> x.count(4)), lit);
        is("4 DEAD ones are told", run.call(x -> x.count(1)), 0);
    }

    // ---- promise 5

    private static void promise5Latest() {
        TongueSight x = new TongueSight();
        is("5 0 before a text()", x.fault(), 0);
        String[] wrong = {"A", ";", "most 10;", "round;round;"};
        for (int fault = 1; fault <= 4; fault++) {
            Due.tell(x, wrong[fault - 1]);
            is("5 FAULT " + fault, x.fault(), fault);
            is("5 asked again", x.fault(), fault);
            x.feed(0);
            is("5 feed() is no text()", x.fault(), fault);
            x.end(0);
            is("5 end() is no text()", x.fault(), fault);
            x.end(-1);
            is("5 a refused end() is no text()", x.fault(), fault);
            x.read(0, 0, 0, 0, 0, 1);
            is("5 a FAULT of the machine is not one of a text", x.fault(), fault);
            Due.tell(x, fault % 2 == 0 ? "" : "round;");
            is("5 0 after one that was taken", x.fault(), 0);
        }
        TRACES.asksOnly("5 fault() asks", TongueSight::fault);
    }

    // ---- promise 6

    private static void promise6Bounds() {
        TongueSight x = taken("way edges;there 99;dead 15;least 0 2;least 15 9;", 5);
        is("6 the first rule", x.rule(0), 2);
        is("6 there", x.rule(10), 99);
        is("6 the last rule", x.rule(11), 1 << 15);
        is("6 LEAST of the first POINT", x.rule(20), 2);
        is("6 LEAST of the last POINT", x.rule(35), 9);
        for (int what : new int[] {MIN, -1, 12, 13, 18, 19, 36, 37, MAX}) {
            TRACES.refused("6 rule " + what, BAD, y -> y.rule(what));
        }
        for (int what : new int[] {0, 11, 20, 35}) {
            TRACES.asksOnly("6 rule() asks", y -> y.rule(what));
        }
        for (int p = 0; p < 16; p++) {
            x.kill(p, true);
        }
        is("6 all POINTS are DEAD", x.rule(11), ALL);
    }
}
