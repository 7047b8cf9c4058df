import java.util.ArrayList;
import java.util.HashMap;
import java.util.LinkedHashMap;
import java.util.List;
import java.util.Map;

/** The document's words once more, slowly and in another form, to be held against the class. */
final class Model {
    static final int BAD = -1, FULL = -3, NONE = -4;
    private static final List<String> RULES = List.of("way", "spread", "less", "tire", "most", "round", "mask",
            "own", "led", "still", "there", "dead");
    private static final List<String> WAYS = List.of("plain", "dark", "edges");

    private static final class Refused extends Exception {
        private static final long serialVersionUID = 1;
        final int fault;
        final int at;

        Refused(int fault, int at) {
            super("fault");
            this.fault = fault;
            this.at = at;
        }
    }

    private static final class Token {
        final String text;
        final int at;

        Token(String text, int at) {
            this.text = text;
            this.at = at;
        }
    }

    /** What a text tells. */
    private static final class Told {
        final Map<String, Integer> numbers = new HashMap<>();
        final int[] least = {1, 1, 1, 1, 1, 1, 1, 1, 1, 1, 1, 1, 1, 1, 1, 1};
        final boolean[] dead = new boolean[16];

        Told() {
            String first = "way 0 spread 0 less 0 tire 0 most 9 round 0 mask 9 own 8 led 1 still 0 there 40";
            String[] words = first.split(" ");
            for (int i = 0; i < words.length; i += 2) {
                numbers.put(words[i], Integer.valueOf(words[i + 1]));
            }
        }

        int of(String name) {
            return numbers.get(name);
        }
    }

    private Told told = new Told();
    private String tape = "";
    private int fault;
    private final int[][][] light = new int[6][8][8];
    private int camera = 25;
    private final int[][] tired = new int[4][4];
    private int knows;
    private final List<int[]> answers = new ArrayList<>();
    private final Object[] sheets = new Object[4];
    private int torn;

    int feed(long v) {
        if (tape.length() > 192) {
            return FULL;
        }
        StringBuilder more = new StringBuilder();
        for (byte b : java.nio.ByteBuffer.allocate(8).putLong(v).array()) {
            more.append((char) (b & 255));
        }
        tape = tape + more;
        return tape.length();
    }

    int end(int n) {
        if (n < 0 || n > tape.length()) {
            return BAD;
        }
        int had = tape.length();
        tape = tape.substring(0, n);
        return had;
    }

    int text() {
        try {
            Reading reading = new Reading(tape);
            told = reading.all();
            fault = 0;
            return reading.lines;
        } catch (Refused e) {
            fault = e.fault;
            return -10 - e.at;
        } finally {
            tape = "";
        }
    }

    private static final class Reading {
        final String text;
        final Told into = new Told();
        final List<String> had = new ArrayList<>();
        int at;
        int latest;
        int lines;

        Reading(String text) {
            this.text = text;
        }

        Told all() throws Refused {
            for (Token t = token(); t.text != null; t = token()) {
                line(t);
                lines++;
            }
            return into;
        }

        private void line(Token name) throws Refused {
            if (!name.text.equals("least") && !RULES.contains(name.text)) {
                throw new Refused(2, name.at);
            }
            if (name.text.equals("least")) {
                int p = point("least");
                into.least[p] = number(1, 9);
            } else if (name.text.equals("dead")) {
                into.dead[point("dead")] = true;
            } else {
                once(name.text, name.at);
                into.numbers.put(name.text, wanted(name.text));
            }
            Token stop = token();
            if (stop.text == null || !stop.text.equals(";")) {
                throw new Refused(2, stop.at);
            }
        }

        private int wanted(String name) throws Refused {
            switch (name) {
                case "way":
                    Token t = token();
                    if (t.text == null || !WAYS.contains(t.text)) {
                        throw new Refused(2, t.at);
                    }
                    return WAYS.indexOf(t.text);
                case "round":
                    return 1;
                case "spread":
                    return number(0, 4);
                case "less":
                    return number(0, 3);
                case "tire":
                    return number(0, 9);
                case "most":
                case "mask":
                    return number(1, 9);
                case "there":
                    return number(1, 99);
                default:
                    return number(0, 20);
            }
        }

        private int point(String of) throws Refused {
            int p = number(0, 15);
            once(of + p, latest);
            return p;
        }

        private void once(String what, int place) throws Refused {
            if (had.contains(what)) {
                throw new Refused(4, place);
            }
            had.add(what);
        }

        private int number(int low, int high) throws Refused {
            Token t = token();
            if (t.text == null || !t.text.matches("[0-9]+")) {
                throw new Refused(2, t.at);
            }
            int n = Integer.parseInt(t.text);
            if (n < low || n > high) {
                throw new Refused(3, t.at);
            }
            return n;
        }

        private Token token() throws Refused {
            while (text.startsWith(" ", at)) {
                at++;
            }
            int from = at;
            latest = from;
            if (from == text.length()) {
                return new Token(null, from);
            }
            java.util.regex.Matcher m = java.util.regex.Pattern.compile("[a-z]+|[0-9]+|;").matcher(text);
            m.region(from, text.length());
            if (!m.lookingAt()) {
                throw new Refused(1, from);
            }
            String t = m.group();
            boolean isName = Character.isLetter(t.charAt(0));
            if (isName && !RULES.contains(t) && !WAYS.contains(t) && !t.equals("least")) {
                throw new Refused(1, from);
            }
            if (Character.isDigit(t.charAt(0)) && t.length() > 2) {
                throw new Refused(1, from);
            }
            at = from + t.length();
            return new Token(t, from);
        }
    }

    int fault() {
        return fault;
    }

    int rule(int what) {
        if (what >= 0 && what <= 10) {
            return told.of(RULES.get(what));
        }
        if (what == 11) {
            return bits(told.dead);
        }
        return what >= 20 && what <= 35 ? told.least[what - 20] : BAD;
    }

    private static int bits(boolean[] row) {
        int b = 0;
        for (int i = row.length - 1; i >= 0; i--) {
            b = 2 * b + (row[i] ? 1 : 0);
        }
        return b;
    }

    private static boolean out(int v, int most) {
        return v < 0 || v > most;
    }

    int light(int scene, int cell, int v) {
        if (out(scene, 5) || out(cell, 63) || out(v, 9)) {
            return BAD;
        }
        int was = light[scene][cell / 8][cell % 8];
        light[scene][cell / 8][cell % 8] = v;
        return was;
    }

    int lightOf(int scene, int cell) {
        return out(scene, 5) || out(cell, 63) ? BAD : light[scene][cell / 8][cell % 8];
    }

    int shift(int from, int to, int by) {
        if (out(from, 5) || out(to, 5) || out(by, 7)) {
            return BAD;
        }
        int[][] next = new int[8][8];
        int n = 0;
        for (int r = 0; r < 8; r++) {
            for (int c = 0; c + by < 8; c++) {
                next[r][c + by] = light[from][r][c];
            }
            for (int c = 0; c < 8; c++) {
                if (next[r][c] != light[to][r][c]) {
                    n++;
                }
            }
        }
        light[to] = next;
        return n;
    }

    int place(int p) {
        if (out(p, 25)) {
            return BAD;
        }
        int was = camera;
        camera = p;
        return was;
    }

    int leads(int p, int move) {
        if (out(p, 25) || out(move, 5)) {
            return BAD;
        }
        if (p == 25) {
            return move == 4 ? 12 : 25;
        }
        if (move == 5) {
            return 25;
        }
        int r = p / 5 + (move == 3 ? 1 : move == 2 ? -1 : 0);
        int c = p % 5 + (move == 1 ? 1 : move == 0 ? -1 : 0);
        return out(r, 4) || out(c, 4) ? p : 5 * r + c;
    }

    /** A way of looking: with the laws as told, or as if none were DEAD or TIRED. */
    private final class Eye {
        final int scene;
        final int place;
        final boolean ideal;

        Eye(int scene, int place, boolean ideal) {
            this.scene = scene;
            this.place = place;
            this.ideal = ideal;
        }

        boolean no(int r, int c) {
            return out(r, 3) || out(c, 3);
        }

        boolean dead(int r, int c) {
            return !ideal && told.dead[4 * r + c];
        }

        int has(int r, int c) {
            int[][] l = light[scene];
            if (place == 25) {
                return (l[2 * r][2 * c] + l[2 * r + 1][2 * c] + l[2 * r][2 * c + 1] + l[2 * r + 1][2 * c + 1]) / 4;
            }
            return l[place / 5 + r][place % 5 + c];
        }

        int would(int r, int c) {
            int h = has(r, c);
            if (told.of("way") == 0) {
                return h;
            }
            if (told.of("way") == 1) {
                return 9 - h;
            }
            int right = no(r, c + 1) ? h : has(r, c + 1);
            int below = no(r + 1, c) ? h : has(r + 1, c);
            return Math.max(Math.abs(right - h), Math.abs(below - h));
        }

        int[][] around(int r, int c) {
            return new int[][] {{r, c - 1}, {r, c + 1}, {r - 1, c}, {r + 1, c}};
        }

        int shown(int r, int c) {
            if (dead(r, c)) {
                return 0;
            }
            int v = would(r, c);
            if (told.of("round") == 0 || ideal) {
                return v;
            }
            for (int[] q : around(r, c)) {
                if (!no(q[0], q[1]) && dead(q[0], q[1]) && givesTo(q[0], q[1], r, c)) {
                    v = Math.max(v, would(q[0], q[1]));
                }
            }
            return v;
        }

        boolean givesTo(int r, int c, int toR, int toC) {
            for (int[] q : around(r, c)) {
                if (!no(q[0], q[1]) && !dead(q[0], q[1])) {
                    return q[0] == toR && q[1] == toC;
                }
            }
            return false;
        }

        int raw(int r, int c) {
            int sum = 0;
            for (int[] q : around(r, c)) {
                sum += no(q[0], q[1]) ? 0 : shown(q[0], q[1]);
            }
            int v = shown(r, c) + Math.floorDiv(told.of("spread") * sum, 16) - told.of("less") * r;
            v -= ideal ? 0 : Math.floorDiv(told.of("tire") * tired[r][c], 10);
            return dead(r, c) || v < told.least[4 * r + c] ? 0 : v;
        }

        int felt(int r, int c) {
            return Math.min(raw(r, c), told.of("most"));
        }

        int hurts(int r, int c) {
            return raw(r, c) > told.of("most") ? 1 : 0;
        }

        int heard(int r, int c) {
            int loud = shown(r, c);
            for (int q = r - 1; q <= r + 1; q += 2) {
                if (!no(q, c) && shown(q, c) - told.of("mask") >= shown(r, c)) {
                    loud = 0;
                }
            }
            return loud;
        }

        List<Integer> allFelt() {
            List<Integer> all = new ArrayList<>();
            for (int p = 0; p < 16; p++) {
                all.add(felt(p / 4, p % 4));
            }
            return all;
        }

        List<Integer> allHeard() {
            List<Integer> all = new ArrayList<>();
            for (int p = 0; p < 16; p++) {
                all.add(heard(p / 4, p % 4));
            }
            return all;
        }
    }

    private Eye eye(int scene) {
        return new Eye(scene, camera, false);
    }

    private List<Integer> felt(int scene, int place) {
        return new Eye(scene, place, false).allFelt();
    }

    int point(int scene, int p, int what) {
        if (out(scene, 5) || out(p, 15) || out(what, 3)) {
            return BAD;
        }
        int r = p / 4;
        int c = p % 4;
        Eye e = eye(scene);
        return what == 0 ? e.has(r, c) : what == 1 ? e.shown(r, c) : what == 2 ? e.felt(r, c) : e.hurts(r, c);
    }

    int feels(int scene, int what) {
        if (out(scene, 5) || out(what, 2)) {
            return BAD;
        }
        int answer = 0;
        for (int p = 15; p >= 0; p--) {
            int felt = point(scene, p, 2);
            int b = what == 0 ? (felt > 0 ? 1 : 0) : point(scene, p, 3);
            answer = what == 2 ? answer + felt : 2 * answer + b;
        }
        return answer;
    }

    int tenths(int scene, int n) {
        if (out(scene, 5) || n < 1 || n > 20) {
            return BAD;
        }
        for (int i = 0; i < n; i++) {
            List<Integer> felt = felt(scene, camera);
            for (int p = 0; p < 16; p++) {
                int t = tired[p / 4][p % 4] + (felt.get(p) > 0 ? 1 : -1);
                tired[p / 4][p % 4] = t < 0 ? 0 : t > 9 ? 9 : t;
            }
            know(told.of("still"));
        }
        return tiredBits();
    }

    private void know(int more) {
        knows += more;
        if (knows > 999) {
            knows = 999;
        }
    }

    private int tiredBits() {
        boolean[] row = new boolean[16];
        for (int p = 0; p < 16; p++) {
            row[p] = tired[p / 4][p % 4] != 0;
        }
        return bits(row);
    }

    int tired(int p) {
        return out(p, 15) ? BAD : tired[p / 4][p % 4];
    }

    int rest() {
        int were = tiredBits();
        for (int[] row : tired) {
            java.util.Arrays.fill(row, 0);
        }
        return were;
    }

    int alike(int a, int b) {
        return out(a, 5) || out(b, 5) ? BAD : felt(a, camera).equals(felt(b, camera)) ? 1 : 0;
    }

    int parted(int a, int b, int what) {
        if (out(a, 5) || out(b, 5) || out(what, 2)) {
            return BAD;
        }
        boolean[] same = new boolean[26];
        for (int p = 0; p < 26; p++) {
            same[p] = felt(a, p).equals(felt(b, p));
        }
        int all = bits(same);
        if (what == 2) {
            return all;
        }
        if (all == (1 << 26) - 1) {
            return NONE;
        }
        // Every row of MOVES of a length, from the least on: each PLACE is at most six away.
        for (int length = 0, many = 1; length <= 6; length++, many *= 6) {
            for (int row = 0; row < many; row++) {
                int at = camera;
                for (int unit = many / 6; unit > 0; unit /= 6) {
                    at = leads(at, row / unit % 6);
                }
                if (!same[at]) {
                    return what == 0 ? length : many + row;
                }
            }
        }
        throw new IllegalStateException("a place that no six moves reach");
    }

    private int best(List<Integer> set, int place, int m) {
        int sum = 0;
        for (List<Integer> like : groups(set, place).values()) {
            sum += bestOfLike(like, place, m);
        }
        return sum;
    }

    private Map<List<Integer>, List<Integer>> groups(List<Integer> set, int place) {
        Map<List<Integer>, List<Integer>> groups = new LinkedHashMap<>();
        for (int scene : set) {
            groups.computeIfAbsent(felt(scene, place), k -> new ArrayList<>()).add(scene);
        }
        return groups;
    }

    private int bestOfLike(List<Integer> like, int place, int m) {
        int most = 1;
        for (int move = 0; move < 6 && m > 0 && like.size() > 1; move++) {
            most = Math.max(most, best(like, leads(place, move), m - 1));
        }
        return most;
    }

    private static List<Integer> members(int scenes) {
        List<Integer> set = new ArrayList<>();
        for (int i = 0; i < 6; i++) {
            if ((scenes & 1 << i) != 0) {
                set.add(i);
            }
        }
        return set;
    }

    int right(int scenes, int m, int what) {
        if (scenes < 1 || scenes > 63 || out(m, 3) || out(what, 1)) {
            return BAD;
        }
        List<Integer> set = members(scenes);
        if (what == 0) {
            return best(set, camera, m);
        }
        if (m == 0) {
            return NONE;
        }
        List<Integer> like = groups(set, camera).get(felt(set.get(0), camera));
        int most = bestOfLike(like, camera, m);
        int move = 0;
        while (best(like, leads(camera, move), m - 1) != most) {
            move++;
        }
        return move;
    }

    int needs(int scenes) {
        if (scenes < 1 || scenes > 63) {
            return BAD;
        }
        for (int m = 0; m < 4; m++) {
            if (right(scenes, m, 0) == members(scenes).size()) {
                return m;
            }
        }
        return NONE;
    }

    private int changed(int scene, int move, int sign) {
        List<Integer> before = felt(scene, camera);
        List<Integer> after = felt(scene, leads(camera, move));
        boolean[] row = new boolean[16];
        for (int p = 0; p < 16; p++) {
            row[p] = Integer.signum(after.get(p).compareTo(before.get(p))) == sign;
        }
        return bits(row);
    }

    int move(int scene, int move, boolean own) {
        if (out(scene, 5) || out(move, 5)) {
            return BAD;
        }
        int changes = 65535 & ~changed(scene, move, 0);
        camera = leads(camera, move);
        know(own && changes > 0 ? told.of("own") : told.of("led"));
        return changes;
    }

    int foretell(int scene, int move, int what) {
        return out(scene, 5) || out(move, 5) || out(what, 1) ? BAD : changed(scene, move, what == 0 ? 1 : -1);
    }

    int head(int what) {
        return out(what, 1) ? BAD : what == 0 ? knows : knows < told.of("there") ? 0 : 1;
    }

    int forget() {
        int was = knows;
        knows = 0;
        return was;
    }

    int lessons(int what) {
        if (out(what, 1)) {
            return BAD;
        }
        int goal = told.of("there");
        // The fewest that are no rest, by TIREDNESS and what is known (no more than the goal).
        int[][] fewest = new int[13][goal + 1];
        for (int[] row : fewest) {
            java.util.Arrays.fill(row, 1000);
        }
        fewest[0][0] = 0;
        for (int hour = 0; hour <= 60; hour++) {
            int least = 1000;
            for (int[] row : fewest) {
                least = Math.min(least, row[goal]);
            }
            if (least < 1000) {
                return what == 0 ? hour : least;
            }
            fewest = afterAnHour(fewest, goal);
        }
        return NONE;
    }

    private int[][] afterAnHour(int[][] fewest, int goal) {
        int[][] next = new int[13][goal + 1];
        for (int[] row : next) {
            java.util.Arrays.fill(row, 1000);
        }
        int[][] kinds = {{told.of("own"), 3, 1}, {told.of("led"), 1, 1}, {0, -4, 0}};
        for (int t = 0; t <= 12; t++) {
            for (int k = 0; k <= goal; k++) {
                for (int[] kind : kinds) {
                    int tiredness = Math.max(0, t + kind[1]);
                    int known = Math.min(goal, k + kind[0]);
                    if (tiredness <= 12) {
                        next[tiredness][known] = Math.min(next[tiredness][known], fewest[t][k] + kind[2]);
                    }
                }
            }
        }
        return next;
    }

    int asks(int p, int n) {
        if (out(p, 15) || n < 2 || n > 9 || told.least[p] > n) {
            return BAD;
        }
        List<Integer> left = new ArrayList<>();
        for (int i = 1; i <= n; i++) {
            left.add(i);
        }
        int asked = 0;
        while (left.size() > 1) {
            int middle = left.get((left.size() - 1) / 2);
            boolean felt = middle >= told.least[p];
            left.removeIf(v -> felt ? v > middle : v <= middle);
            asked++;
        }
        return asked;
    }

    int heard(int scene, int column, int row) {
        return out(scene, 5) || out(column, 3) || out(row, 3) ? BAD : eye(scene).heard(row, column);
    }

    int sounds(int a, int b) {
        return out(a, 5) || out(b, 5) ? BAD : eye(a).allHeard().equals(eye(b).allHeard()) ? 1 : 0;
    }

    int beside(int what) {
        if (out(what, 2)) {
            return BAD;
        }
        int n = 0;
        for (int a = 0; a < 6; a++) {
            for (int b = 0; b < a; b++) {
                n += what == 0 ? alike(a, b) : what == 1 ? sounds(a, b) : alike(a, b) * sounds(a, b);
            }
        }
        return n;
    }

    int answer(int scene, int place, int p, boolean felt) {
        if (out(scene, 5) || out(place, 25) || out(p, 15)) {
            return BAD;
        }
        if (answers.size() == 12) {
            return FULL;
        }
        answers.add(new int[] {scene, place, p, felt ? 1 : 0});
        return answers.size();
    }

    int dead() {
        boolean[] may = new boolean[16];
        for (int[] a : answers) {
            if (a[3] == 0 && new Eye(a[0], a[1], true).felt(a[2] / 4, a[2] % 4) > 0) {
                may[a[2]] = true;
            }
        }
        for (int[] a : answers) {
            if (a[3] == 1) {
                may[a[2]] = false;
            }
        }
        return bits(may);
    }

    int kill(int p, boolean is) {
        if (out(p, 15)) {
            return BAD;
        }
        int was = told.dead[p] ? 1 : 0;
        told.dead[p] = is;
        return was;
    }

    int sheet(int k, int lane, int n) {
        if (out(k, 3) || out(lane, 2) || n > 64) {
            return BAD;
        }
        try {
            sheets[k] = lane == 0 ? new byte[n] : lane == 1 ? new short[n] : new int[n];
            return 1;
        } catch (NegativeArraySizeException e) {
            return -14;
        }
    }

    int lay(int k, int i, int v) {
        if (out(k, 3)) {
            return BAD;
        }
        try {
            if (sheets[k] instanceof byte[] b) {
                b[i] = (byte) v;
            } else if (sheets[k] instanceof short[] s) {
                s[i] = (short) v;
            } else {
                ((int[]) sheets[k])[i] = v;
            }
            return 1;
        } catch (NullPointerException e) {
            return -11;
        } catch (ArrayIndexOutOfBoundsException e) {
            return -12;
        }
    }

    int read(int scene, int k, int lane, int f, int c, int n) {
        if (out(scene, 5) || out(k, 3) || out(lane, 2) || c < 0 || n < 0 || (long) c + n > 64) {
            return BAD;
        }
        List<Integer> cells = new ArrayList<>();
        int found = 0;
        try {
            for (int i = 0; i < n; i++) {
                Object from = sheets[k];
                int v = lane == 0 ? ((byte[]) from)[f + i] : lane == 1 ? ((short[]) from)[f + i] : ((int[]) from)[f + i];
                if (out(v, 9)) {
                    return -20 - i;
                }
                cells.add(v);
            }
        } catch (NullPointerException e) {
            found = 1;
        } catch (ArrayIndexOutOfBoundsException e) {
            found = 2;
        } catch (ClassCastException e) {
            found = 3;
        }
        torn = found;
        for (int i = 0; i < n; i++) {
            light(scene, c + i, i < cells.size() ? cells.get(i) : 0);
        }
        return cells.size();
    }

    int torn() {
        return torn;
    }

    int count(int what) {
        int lit = 0;
        for (int[][] scene : light) {
            for (int[] row : scene) {
                for (int v : row) {
                    lit += v > 0 ? 1 : 0;
                }
            }
        }
        int size = sheets[0] == null ? NONE : java.lang.reflect.Array.getLength(sheets[0]);
        int[] all = {camera, Integer.bitCount(bits(told.dead)), Integer.bitCount(tiredBits()), answers.size(), lit,
            tape.length(), size};
        return out(what, 6) ? BAD : all[what];
    }
}
