import java.util.Arrays;

/** Scenes of light that a camera turns into sixteen points felt by the tongue, or heard. */
public final class TongueSight {
    public static final int BAD = -1, STATE = -2, FULL = -3, NONE = -4;

    private static final int SCENES = 6, CELLS = 64, CELL_ROW = 8, LIGHT_MOST = 9;
    private static final int PLACES = 26, FAR = 25, PLACE_ROW = 5, MIDDLE = 12;
    private static final int MOVES = 6, LEFT = 0, RIGHT = 1, UP = 2, DOWN = 3, IN = 4, OUT = 5;
    private static final int POINTS = 16, POINT_ROW = 4, SIDES = 4;
    private static final int TIRED_MOST = 9, TENTHS_MOST = 20;
    private static final int KNOWS_MOST = 999, HOURS_MOST = 60, TIREDNESS_MOST = 12;
    private static final int ANSWERS = 12, MOVES_ASKED = 3;
    private static final int TAPE = 200;
    private static final int SHEETS = 4, LANES = 3;
    private static final int FAULT_NULL = 1, FAULT_INDEX = 2, FAULT_CAST = 3, FAULT_SIZE = 4;

    // The numbers that rule() asks for are also those of the NAMES that begin a line.
    private static final int WAY = 0, SPREAD = 1, LESS = 2, TIRE = 3, MOST = 4, ROUND = 5;
    private static final int MASK = 6, OWN = 7, LED = 8, STILL = 9, THERE = 10, DEAD = 11;
    private static final int RULES = 12, LEAST = 12, PLAIN = 13, DARK = 14, EDGES = 15, WORDS = 16;
    private static final int RULE_LEAST = 20;
    private static final int[] AT_FIRST = {0, 0, 0, 0, 9, 0, 9, 8, 1, 0, 40, 0};
    // Bounds of the NUMBER that ends the line of a NAME; those of LEAST stand last.
    private static final int[] LOWEST = {0, 0, 0, 0, 1, 0, 1, 0, 0, 0, 1, 0, 1};
    private static final int[] HIGHEST = {2, 4, 3, 9, 9, 1, 9, 20, 20, 20, 99, 15, 9};

    // For each POINT those to the left of it, to the right, above, below; -1 where there is none.
    private static final int ON_RIGHT = 1, ABOVE = 2, BELOW = 3;
    private static final int[] BESIDE = {
        -1, 1, -1, 4, 0, 2, -1, 5, 1, 3, -1, 6, 2, -1, -1, 7,
        -1, 5, 0, 8, 4, 6, 1, 9, 5, 7, 2, 10, 6, -1, 3, 11,
        -1, 9, 4, 12, 8, 10, 5, 13, 9, 11, 6, 14, 10, -1, 7, 15,
        -1, 13, 8, -1, 12, 14, 9, -1, 13, 15, 10, -1, 14, -1, 11, -1};

    private final Laws laws = new Laws();
    private final Laws unhurt = new Laws();
    private final Script script = new Script();
    private final int[] lights = new int[SCENES * CELLS];
    private final int[] tiredOf = new int[POINTS];
    private final int[] fresh = new int[POINTS];
    private final Frame[] frames = new Frame[SCENES];
    private final Frame moved = new Frame();
    private final Likeness likeness = new Likeness();
    private final Route route = new Route();
    private final Replies replies = new Replies();
    private final Sheet[] sheets = new Sheet[SHEETS];
    private int camera = FAR;
    private int knows;
    private int tornBy;

    public TongueSight() {
        for (int i = 0; i < SCENES; i++) {
            frames[i] = new Frame();
        }
        for (int i = 0; i < SHEETS; i++) {
            sheets[i] = new Sheet();
        }
    }

    // ---- the text

    public int feed(long v) {
        return script.append(v) ? script.length : FULL;
    }

    public int end(int n) {
        if (n < 0 || n > script.length) {
            return BAD;
        }
        int had = script.length;
        script.length = n;
        return had;
    }

    public int text() {
        int lines = script.readLines();
        script.length = 0;
        if (script.wrong != 0) {
            return -10 - script.wrongAt;
        }
        laws.takeFrom(script.draft);
        return lines;
    }

    public int fault() {
        return script.wrong;
    }

    public int rule(int what) {
        if (within(what, RULES)) {
            return laws.values[what];
        }
        if (what < RULE_LEAST || what >= RULE_LEAST + POINTS) {
            return BAD;
        }
        return laws.least[what - RULE_LEAST];
    }

    // ---- scenes, the camera

    public int light(int scene, int cell, int v) {
        if (!within(scene, SCENES) || !within(cell, CELLS) || v < 0 || v > LIGHT_MOST) {
            return BAD;
        }
        int at = scene * CELLS + cell;
        int was = lights[at];
        lights[at] = v;
        return was;
    }

    public int lightOf(int scene, int cell) {
        if (!within(scene, SCENES) || !within(cell, CELLS)) {
            return BAD;
        }
        return lights[scene * CELLS + cell];
    }

    public int shift(int from, int to, int by) {
        if (!within(from, SCENES) || !within(to, SCENES) || !within(by, CELL_ROW)) {
            return BAD;
        }
        int others = 0;
        // From the last CELL on, so that a SCENE shifted onto itself reads none that was written.
        for (int cell = CELLS - 1; cell >= 0; cell--) {
            int comes = cell % CELL_ROW < by ? 0 : lights[from * CELLS + cell - by];
            int at = to * CELLS + cell;
            if (lights[at] != comes) {
                others++;
            }
            lights[at] = comes;
        }
        return others;
    }

    public int place(int p) {
        if (!within(p, PLACES)) {
            return BAD;
        }
        int was = camera;
        camera = p;
        return was;
    }

    public int leads(int p, int move) {
        if (!within(p, PLACES) || !within(move, MOVES)) {
            return BAD;
        }
        return placeAfter(p, move);
    }

    // ---- points

    public int point(int scene, int p, int what) {
        if (!within(scene, SCENES) || !within(p, POINTS) || !within(what, 4)) {
            return BAD;
        }
        Frame frame = seen(scene, camera);
        switch (what) {
            case 0:
                return frame.has[p];
            case 1:
                return frame.shown[p];
            case 2:
                return frame.felt[p];
            default:
                return bit(frame.hurting, p);
        }
    }

    public int feels(int scene, int what) {
        if (!within(scene, SCENES) || !within(what, 3)) {
            return BAD;
        }
        Frame frame = seen(scene, camera);
        if (what == 0) {
            return above(frame.felt, fresh);
        }
        return what == 1 ? frame.hurting : sum(frame.felt);
    }

    public int tenths(int scene, int n) {
        if (!within(scene, SCENES) || n < 1 || n > TENTHS_MOST) {
            return BAD;
        }
        for (int i = 0; i < n; i++) {
            tireBy(seen(scene, camera));
        }
        learn(n * laws.values[STILL]);
        return above(tiredOf, fresh);
    }

    public int tired(int p) {
        return within(p, POINTS) ? tiredOf[p] : BAD;
    }

    public int rest() {
        int were = above(tiredOf, fresh);
        Arrays.fill(tiredOf, 0);
        return were;
    }

    // ---- one picture or two

    public int alike(int a, int b) {
        if (!within(a, SCENES) || !within(b, SCENES)) {
            return BAD;
        }
        return feelSame(a, b, camera) ? 1 : 0;
    }

    public int parted(int a, int b, int what) {
        if (!within(a, SCENES) || !within(b, SCENES) || !within(what, 3)) {
            return BAD;
        }
        return what == 2 ? placesAlike(a, b) : wayApart(a, b, what);
    }

    public int right(int scenes, int m, int what) {
        if (!isSet(scenes) || m < 0 || m > MOVES_ASKED || !within(what, 2)) {
            return BAD;
        }
        likeness.forgetAll();
        if (what == 0) {
            return toldFrom(scenes, camera, m);
        }
        if (m == 0) {
            return NONE;
        }
        return firstMove(scenes & likeHere(camera, leastOf(scenes)), m);
    }

    public int needs(int scenes) {
        if (!isSet(scenes)) {
            return BAD;
        }
        likeness.forgetAll();
        int all = Integer.bitCount(scenes);
        for (int m = 0; m <= MOVES_ASKED; m++) {
            if (toldFrom(scenes, camera, m) == all) {
                return m;
            }
        }
        return NONE;
    }

    // ---- her own hand

    public int move(int scene, int move, boolean own) {
        if (!within(scene, SCENES) || !within(move, MOVES)) {
            return BAD;
        }
        Frame before = seen(scene, camera);
        Frame after = seenAfter(scene, move);
        int changed = above(after.felt, before.felt) | above(before.felt, after.felt);
        camera = placeAfter(camera, move);
        learn(laws.values[own && changed != 0 ? OWN : LED]);
        return changed;
    }

    public int foretell(int scene, int move, int what) {
        if (!within(scene, SCENES) || !within(move, MOVES) || !within(what, 2)) {
            return BAD;
        }
        Frame before = seen(scene, camera);
        Frame after = seenAfter(scene, move);
        return what == 0 ? above(after.felt, before.felt) : above(before.felt, after.felt);
    }

    public int head(int what) {
        if (!within(what, 2)) {
            return BAD;
        }
        if (what == 0) {
            return knows;
        }
        return knows >= laws.values[THERE] ? 1 : 0;
    }

    public int forget() {
        int was = knows;
        knows = 0;
        return was;
    }

    public int lessons(int what) {
        if (!within(what, 2)) {
            return BAD;
        }
        for (int hours = 0; hours <= HOURS_MOST; hours++) {
            for (int busy = 0; busy <= hours; busy++) {
                if (mostLearnt(hours, busy) >= laws.values[THERE]) {
                    return what == 0 ? hours : busy;
                }
            }
        }
        return NONE;
    }

    public int asks(int p, int n) {
        if (!within(p, POINTS) || n < 2 || n > 9 || laws.least[p] > n) {
            return BAD;
        }
        int low = 1;
        int high = n;
        int asked = 0;
        for (int i = 0; i < n && low < high; i++) {
            int middle = (low + high) / 2;
            if (middle >= laws.least[p]) {
                high = middle;
            } else {
                low = middle + 1;
            }
            asked++;
        }
        return asked;
    }

    // ---- by ear

    public int heard(int scene, int column, int row) {
        if (!within(scene, SCENES) || !within(column, POINT_ROW) || !within(row, POINT_ROW)) {
            return BAD;
        }
        return seen(scene, camera).loudness(POINT_ROW * row + column, laws.values[MASK]);
    }

    public int sounds(int a, int b) {
        if (!within(a, SCENES) || !within(b, SCENES)) {
            return BAD;
        }
        return seen(a, camera).soundsAs(seen(b, camera), laws.values[MASK]) ? 1 : 0;
    }

    public int beside(int what) {
        if (!within(what, 3)) {
            return BAD;
        }
        for (int scene = 0; scene < SCENES; scene++) {
            seen(scene, camera);
        }
        int pairs = 0;
        for (int a = 0; a < SCENES; a++) {
            for (int b = a + 1; b < SCENES; b++) {
                boolean same = what == 1 || frames[a].feelsAs(frames[b]);
                if (same && what != 0) {
                    same = frames[a].soundsAs(frames[b], laws.values[MASK]);
                }
                pairs += same ? 1 : 0;
            }
        }
        return pairs;
    }

    // ---- dead points

    public int answer(int scene, int place, int p, boolean felt) {
        if (!within(scene, SCENES) || !within(place, PLACES) || !within(p, POINTS)) {
            return BAD;
        }
        return replies.keep(scene, place, p, felt) ? replies.size : FULL;
    }

    public int dead() {
        unhurt.takeFrom(laws);
        unhurt.values[DEAD] = 0;
        unhurt.values[ROUND] = 0;
        int felt = 0;
        int missed = 0;
        for (int i = 0; i < replies.size; i++) {
            int p = replies.pointOf[i];
            if (replies.feltOf[i]) {
                felt |= 1 << p;
            } else {
                moved.see(lights, replies.sceneOf[i], replies.placeOf[i], unhurt, fresh);
                missed |= moved.felt[p] > 0 ? 1 << p : 0;
            }
        }
        return missed & ~felt;
    }

    public int kill(int p, boolean is) {
        if (!within(p, POINTS)) {
            return BAD;
        }
        int was = bit(laws.values[DEAD], p);
        if (is) {
            laws.values[DEAD] |= 1 << p;
        } else {
            laws.values[DEAD] &= ~(1 << p);
        }
        return was;
    }

    // ---- sheets

    public int sheet(int k, int lane, int n) {
        if (!within(k, SHEETS) || !within(lane, LANES) || n > CELLS) {
            return BAD;
        }
        if (n < 0) {
            return -10 - FAULT_SIZE;
        }
        sheets[k].renew(lane, n);
        return 1;
    }

    public int lay(int k, int i, int v) {
        if (!within(k, SHEETS)) {
            return BAD;
        }
        int refused = sheets[k].faultAt(i);
        if (refused != 0) {
            return -10 - refused;
        }
        sheets[k].put(i, v);
        return 1;
    }

    public int read(int scene, int k, int lane, int f, int c, int n) {
        if (!within(scene, SCENES) || !within(k, SHEETS) || !within(lane, LANES) || !isPart(c, n)) {
            return BAD;
        }
        Sheet from = sheets[k];
        int refused = 0;
        int told = 0;
        while (refused == 0 && told < n) {
            refused = from.faultAsOf(lane, f + told);
            if (refused == 0) {
                if (from.cells[f + told] < 0 || from.cells[f + told] > LIGHT_MOST) {
                    return -20 - told;
                }
                told++;
            }
        }
        for (int i = 0; i < n; i++) {
            lights[scene * CELLS + c + i] = i < told ? from.cells[f + i] : 0;
        }
        tornBy = refused;
        return told;
    }

    public int torn() {
        return tornBy;
    }

    public int count(int what) {
        switch (what) {
            case 0:
                return camera;
            case 1:
                return Integer.bitCount(laws.values[DEAD]);
            case 2:
                return Integer.bitCount(above(tiredOf, fresh));
            case 3:
                return replies.size;
            case 4:
                return lit();
            case 5:
                return script.length;
            case 6:
                return sheets[0].size < 0 ? NONE : sheets[0].size;
            default:
                return BAD;
        }
    }

    // ---- what the calls share

    private static boolean within(int v, int many) {
        return v >= 0 && v < many;
    }

    private static boolean isSet(int scenes) {
        return scenes > 0 && scenes < 1 << SCENES;
    }

    private static boolean isPart(int c, int n) {
        return c >= 0 && c <= CELLS && n >= 0 && n <= CELLS && c + n <= CELLS;
    }

    private static int bit(int bits, int i) {
        return bits >> i & 1;
    }

    /** The least SCENE of a set. */
    private static int leastOf(int scenes) {
        int least = 0;
        while (least < SCENES - 1 && bit(scenes, least) == 0) {
            least++;
        }
        return least;
    }

    /** POINTS (bits) of which the first row has more than the second. */
    private static int above(int[] more, int[] less) {
        int bits = 0;
        for (int p = 0; p < POINTS; p++) {
            if (more[p] > less[p]) {
                bits |= 1 << p;
            }
        }
        return bits;
    }

    private static int sum(int[] row) {
        int all = 0;
        for (int v : row) {
            all += v;
        }
        return all;
    }

    private int lit() {
        int many = 0;
        for (int v : lights) {
            many += v > 0 ? 1 : 0;
        }
        return many;
    }

    private static int placeAfter(int place, int move) {
        if (place == FAR) {
            return move == IN ? MIDDLE : FAR;
        }
        int row = place / PLACE_ROW;
        int column = place % PLACE_ROW;
        switch (move) {
            case LEFT:
                return column > 0 ? place - 1 : place;
            case RIGHT:
                return column < PLACE_ROW - 1 ? place + 1 : place;
            case UP:
                return row > 0 ? place - PLACE_ROW : place;
            case DOWN:
                return row < PLACE_ROW - 1 ? place + PLACE_ROW : place;
            case OUT:
                return FAR;
            default:
                return place;
        }
    }

    /** The SCENE's own frame, filled anew: good until the same SCENE is seen again. */
    private Frame seen(int scene, int place) {
        Frame frame = frames[scene];
        frame.see(lights, scene, place, laws, tiredOf);
        return frame;
    }

    private Frame seenAfter(int scene, int move) {
        moved.see(lights, scene, placeAfter(camera, move), laws, tiredOf);
        return moved;
    }

    private void tireBy(Frame frame) {
        for (int p = 0; p < POINTS; p++) {
            if (frame.felt[p] > 0) {
                tiredOf[p] = Math.min(TIRED_MOST, tiredOf[p] + 1);
            } else {
                tiredOf[p] = Math.max(0, tiredOf[p] - 1);
            }
        }
    }

    private void learn(int more) {
        knows = Math.min(KNOWS_MOST, knows + more);
    }

    private boolean feelSame(int a, int b, int place) {
        return seen(a, place).feelsAs(seen(b, place));
    }

    private int placesAlike(int a, int b) {
        int bits = 0;
        for (int place = 0; place < PLACES; place++) {
            if (feelSame(a, b, place)) {
                bits |= 1 << place;
            }
        }
        return bits;
    }

    private int wayApart(int a, int b, int what) {
        route.startAt(camera);
        for (int i = 0; i < PLACES && i < route.reached; i++) {
            int place = route.places[i];
            if (!feelSame(a, b, place)) {
                return what == 0 ? route.steps[place] : route.rows[place];
            }
            route.goOnFrom(place);
        }
        return NONE;
    }

    /** SCENES (bits) that are ALIKE with one at a PLACE. */
    private int likeHere(int place, int scene) {
        if (!likeness.isKnown(place)) {
            for (int i = 0; i < SCENES; i++) {
                frames[i].see(lights, i, place, laws, tiredOf);
            }
            likeness.compare(place, frames);
        }
        return likeness.like[place * SCENES + scene];
    }

    /** How many of a set are told right at best from a PLACE, with so many MOVES left. */
    private int toldFrom(int set, int place, int moves) {
        int told = 0;
        int left = set;
        for (int scene = 0; scene < SCENES; scene++) {
            if (bit(left, scene) == 1) {
                int like = set & likeHere(place, scene);
                left &= ~like;
                int all = Integer.bitCount(like);
                int most = 1;
                for (int move = 0; move < MOVES && moves > 0 && most < all; move++) {
                    most = Math.max(most, toldFrom(like, placeAfter(place, move), moves - 1));
                }
                told += most;
            }
        }
        return told;
    }

    /** The least MOVE from the CAMERA's PLACE that is best for SCENES which are ALIKE there. */
    private int firstMove(int like, int moves) {
        int most = 0;
        int first = 0;
        for (int move = 0; move < MOVES; move++) {
            int told = toldFrom(like, placeAfter(camera, move), moves - 1);
            if (told > most) {
                most = told;
                first = move;
            }
        }
        return first;
    }

    /**
     * The most that is learnt in so many hours of which some are no rest; -1 if there is no such plan.
     * She can always put off a rest till TIREDNESS is 4 or more, so that a plan goes just when 3 for each own
     * and 1 for each led, less 4 for each rest, are not above 12.
     */
    private int mostLearnt(int hours, int busy) {
        int spare = TIREDNESS_MOST + 4 * (hours - busy) - busy;
        if (spare < 0) {
            return -1;
        }
        int own = laws.values[OWN];
        int led = laws.values[LED];
        int byOwn = own > led ? Math.min(busy, spare / 2) : 0;
        return byOwn * own + (busy - byOwn) * led;
    }

    /** The laws that a text tells. */
    private static final class Laws {
        final int[] values = new int[RULES];
        final int[] least = new int[POINTS];

        Laws() {
            toFirst();
        }

        void toFirst() {
            System.arraycopy(AT_FIRST, 0, values, 0, RULES);
            Arrays.fill(least, 1);
        }

        void takeFrom(Laws other) {
            System.arraycopy(other.values, 0, values, 0, RULES);
            System.arraycopy(other.least, 0, least, 0, POINTS);
        }
    }

    /** THE TAPE, and the reading of a text from it into a draft of the laws. */
    private static final class Script {
        // Kinds of TOKENS, and what may come next.
        private static final int END = 0, NAME = 1, NUMBER = 2, STOP = 3;
        private static final int A_LINE = 0, A_WAY = 1, A_POINT = 2, A_NUMBER = 3, A_STOP = 4, NO_MORE = 5;

        final Laws draft = new Laws();
        int length;
        int wrong;
        int wrongAt;
        private final int[] bytes = new int[TAPE];
        private int next;
        private int kind;
        private int value;
        private int start;
        private int wanted;
        private int name;
        private int point;
        private int lines;
        private int namesTold;
        private int leastsTold;

        boolean append(long v) {
            if (length + 8 > TAPE) {
                return false;
            }
            for (int i = 0; i < 8; i++) {
                bytes[length + i] = (int) (v >>> (56 - 8 * i)) & 255;
            }
            length += 8;
            return true;
        }

        /** How many lines stand there; wrong is not 0 if the text is refused. */
        int readLines() {
            draft.toFirst();
            wrong = 0;
            wrongAt = 0;
            next = 0;
            namesTold = 0;
            leastsTold = 0;
            lines = 0;
            wanted = A_LINE;
            // A TOKEN has at least one byte, so there are never more of them than TAPE, and the end.
            for (int i = 0; i <= TAPE && wrong == 0 && wanted != NO_MORE; i++) {
                takeToken();
                if (wrong == 0) {
                    useToken();
                }
            }
            return lines;
        }

        private void useToken() {
            switch (wanted) {
                case A_LINE:
                    beginLine();
                    break;
                case A_WAY:
                    tellWay();
                    break;
                case A_POINT:
                    tellPoint();
                    break;
                case A_NUMBER:
                    tellNumber();
                    break;
                default:
                    endLine();
                    break;
            }
        }

        private void beginLine() {
            if (kind == END) {
                wanted = NO_MORE;
                return;
            }
            if (kind != NAME || value > LEAST) {
                refuse(2);
                return;
            }
            name = value;
            boolean ofPoints = name == DEAD || name == LEAST;
            if (!ofPoints && bit(namesTold, name) == 1) {
                refuse(4);
                return;
            }
            namesTold |= 1 << name;
            wanted = ofPoints ? A_POINT : A_NUMBER;
            if (name == WAY) {
                wanted = A_WAY;
            } else if (name == ROUND) {
                draft.values[ROUND] = 1;
                wanted = A_STOP;
            }
        }

        private void tellWay() {
            if (kind != NAME || value < PLAIN) {
                refuse(2);
                return;
            }
            draft.values[WAY] = value - PLAIN;
            wanted = A_STOP;
        }

        private void tellPoint() {
            if (!isNumber(0, POINTS - 1)) {
                return;
            }
            int told = name == DEAD ? draft.values[DEAD] : leastsTold;
            if (bit(told, value) == 1) {
                refuse(4);
                return;
            }
            if (name == DEAD) {
                draft.values[DEAD] = told | 1 << value;
                wanted = A_STOP;
            } else {
                leastsTold = told | 1 << value;
                point = value;
                wanted = A_NUMBER;
            }
        }

        private void tellNumber() {
            if (!isNumber(LOWEST[name], HIGHEST[name])) {
                return;
            }
            if (name == LEAST) {
                draft.least[point] = value;
            } else {
                draft.values[name] = value;
            }
            wanted = A_STOP;
        }

        private void endLine() {
            if (kind != STOP) {
                refuse(2);
                return;
            }
            lines++;
            wanted = A_LINE;
        }

        /** Whether the TOKEN is a NUMBER within its bounds; it is refused if not. */
        private boolean isNumber(int lowest, int highest) {
            if (kind != NUMBER) {
                refuse(2);
            } else if (value < lowest || value > highest) {
                refuse(3);
            }
            return wrong == 0;
        }

        private void refuse(int fault) {
            wrong = fault;
            wrongAt = start;
        }

        private void takeToken() {
            while (next < length && bytes[next] == ' ') {
                next++;
            }
            start = next;
            if (next >= length) {
                kind = END;
            } else if (isLetter(bytes[next])) {
                takeName();
            } else if (isFigure(bytes[next])) {
                takeNumber();
            } else if (bytes[next] == ';') {
                kind = STOP;
                next++;
            } else {
                refuse(1);
            }
        }

        private void takeName() {
            while (next < length && isLetter(bytes[next])) {
                next++;
            }
            kind = NAME;
            value = wordRead();
            if (value >= WORDS) {
                refuse(1);
            }
        }

        private void takeNumber() {
            value = 0;
            while (next < length && isFigure(bytes[next])) {
                // What is too long is refused: its value is not wanted, only that it stays small.
                value = (value * 10 + bytes[next] - '0') % 1000;
                next++;
            }
            kind = NUMBER;
            if (next - start > 2) {
                refuse(1);
            }
        }

        /** Which of the words stands from start to next; WORDS if none does. */
        private int wordRead() {
            for (int w = 0; w < WORDS; w++) {
                if (standsThere(word(w))) {
                    return w;
                }
            }
            return WORDS;
        }

        private boolean standsThere(String word) {
            if (word.length() != next - start) {
                return false;
            }
            for (int i = 0; i < word.length(); i++) {
                if (bytes[start + i] != word.charAt(i)) {
                    return false;
                }
            }
            return true;
        }

        private static String word(int w) {
            switch (w) {
                case WAY:
                    return "way";
                case SPREAD:
                    return "spread";
                case LESS:
                    return "less";
                case TIRE:
                    return "tire";
                case MOST:
                    return "most";
                case ROUND:
                    return "round";
                case MASK:
                    return "mask";
                case OWN:
                    return "own";
                case LED:
                    return "led";
                case STILL:
                    return "still";
                case THERE:
                    return "there";
                case DEAD:
                    return "dead";
                case LEAST:
                    return "least";
                case PLAIN:
                    return "plain";
                case DARK:
                    return "dark";
                default:
                    return "edges";
            }
        }

        private static boolean isLetter(int c) {
            return c >= 'a' && c <= 'z';
        }

        private static boolean isFigure(int c) {
            return c >= '0' && c <= '9';
        }
    }

    /** A SCENE as it is had, shown and felt by the POINTS from one PLACE. */
    private static final class Frame {
        final int[] has = new int[POINTS];
        final int[] shown = new int[POINTS];
        final int[] felt = new int[POINTS];
        int hurting;
        private final int[] would = new int[POINTS];

        void see(int[] lights, int scene, int place, Laws laws, int[] tiredOf) {
            for (int p = 0; p < POINTS; p++) {
                has[p] = lightAt(lights, scene * CELLS, place, p);
            }
            for (int p = 0; p < POINTS; p++) {
                would[p] = byWay(laws.values[WAY], p);
                shown[p] = bit(laws.values[DEAD], p) == 1 ? 0 : would[p];
            }
            if (laws.values[ROUND] == 1) {
                goRound(laws.values[DEAD]);
            }
            hurting = 0;
            for (int p = 0; p < POINTS; p++) {
                feel(p, laws, tiredOf[p]);
            }
        }

        boolean feelsAs(Frame other) {
            for (int p = 0; p < POINTS; p++) {
                if (felt[p] != other.felt[p]) {
                    return false;
                }
            }
            return true;
        }

        boolean soundsAs(Frame other, int mask) {
            for (int p = 0; p < POINTS; p++) {
                if (loudness(p, mask) != other.loudness(p, mask)) {
                    return false;
                }
            }
            return true;
        }

        int loudness(int p, int mask) {
            for (int side = ABOVE; side <= BELOW; side++) {
                int next = BESIDE[SIDES * p + side];
                if (next >= 0 && shown[next] - shown[p] >= mask) {
                    return 0;
                }
            }
            return shown[p];
        }

        private static int lightAt(int[] lights, int first, int place, int p) {
            int row = p / POINT_ROW;
            int column = p % POINT_ROW;
            if (place != FAR) {
                return lights[first + CELL_ROW * (place / PLACE_ROW + row) + place % PLACE_ROW + column];
            }
            int corner = first + CELL_ROW * 2 * row + 2 * column;
            int below = corner + CELL_ROW;
            return (lights[corner] + lights[corner + 1] + lights[below] + lights[below + 1]) / 4;
        }

        private int byWay(int way, int p) {
            if (way == DARK - PLAIN) {
                return LIGHT_MOST - has[p];
            }
            return way == EDGES - PLAIN ? Math.max(edge(p, ON_RIGHT), edge(p, BELOW)) : has[p];
        }

        private int edge(int p, int side) {
            int next = BESIDE[SIDES * p + side];
            return next < 0 ? 0 : Math.abs(has[p] - has[next]);
        }

        private void goRound(int dead) {
            for (int p = 0; p < POINTS; p++) {
                if (bit(dead, p) == 1) {
                    int to = firstLiving(p, dead);
                    if (to >= 0) {
                        shown[to] = Math.max(shown[to], would[p]);
                    }
                }
            }
        }

        private static int firstLiving(int p, int dead) {
            for (int side = 0; side < SIDES; side++) {
                int next = BESIDE[SIDES * p + side];
                if (next >= 0 && bit(dead, next) == 0) {
                    return next;
                }
            }
            return -1;
        }

        private void feel(int p, Laws laws, int tired) {
            felt[p] = 0;
            if (bit(laws.values[DEAD], p) == 1) {
                return;
            }
            int strength = shown[p] + laws.values[SPREAD] * shownBeside(p) / 16
                    - laws.values[LESS] * (p / POINT_ROW) - laws.values[TIRE] * tired / 10;
            if (strength < laws.least[p]) {
                return;
            }
            felt[p] = Math.min(strength, laws.values[MOST]);
            if (strength > laws.values[MOST]) {
                hurting |= 1 << p;
            }
        }

        private int shownBeside(int p) {
            int all = 0;
            for (int side = 0; side < SIDES; side++) {
                int next = BESIDE[SIDES * p + side];
                all += next < 0 ? 0 : shown[next];
            }
            return all;
        }
    }

    /** Which SCENES are ALIKE at a PLACE, kept for one call so that no PLACE is seen twice. */
    private static final class Likeness {
        final int[] like = new int[PLACES * SCENES];
        private int known;

        void forgetAll() {
            known = 0;
        }

        boolean isKnown(int place) {
            return bit(known, place) == 1;
        }

        void compare(int place, Frame[] frames) {
            known |= 1 << place;
            for (int a = 0; a < SCENES; a++) {
                int bits = 0;
                for (int b = 0; b < SCENES; b++) {
                    if (frames[a].feelsAs(frames[b])) {
                        bits |= 1 << b;
                    }
                }
                like[place * SCENES + a] = bits;
            }
        }
    }

    /** PLACES in the order in which the least rows of the fewest MOVES reach them. */
    private static final class Route {
        final int[] places = new int[PLACES];
        final int[] steps = new int[PLACES];
        final int[] rows = new int[PLACES];
        int reached;

        void startAt(int place) {
            Arrays.fill(rows, 0);
            places[0] = place;
            steps[place] = 0;
            rows[place] = 1;
            reached = 1;
        }

        void goOnFrom(int place) {
            for (int move = 0; move < MOVES; move++) {
                int to = placeAfter(place, move);
                if (rows[to] == 0 && reached < PLACES) {
                    places[reached] = to;
                    steps[to] = steps[place] + 1;
                    rows[to] = rows[place] * MOVES + move;
                    reached++;
                }
            }
        }
    }

    /** ANSWERS as she told them. */
    private static final class Replies {
        final int[] sceneOf = new int[ANSWERS];
        final int[] placeOf = new int[ANSWERS];
        final int[] pointOf = new int[ANSWERS];
        final boolean[] feltOf = new boolean[ANSWERS];
        int size;

        boolean keep(int scene, int place, int p, boolean felt) {
            if (size >= ANSWERS) {
                return false;
            }
            sceneOf[size] = scene;
            placeOf[size] = place;
            pointOf[size] = p;
            feltOf[size] = felt;
            size++;
            return true;
        }
    }

    /** A row of bytes, shorts or ints, or nothing (its size is below 0 then). */
    private static final class Sheet {
        final int[] cells = new int[CELLS];
        int size = -1;
        private int laneOf;

        void renew(int lane, int n) {
            Arrays.fill(cells, 0);
            laneOf = lane;
            size = n;
        }

        /** What the machine would find when CELL i is touched; 0 if nothing. */
        int faultAt(int i) {
            if (size < 0) {
                return FAULT_NULL;
            }
            return i < 0 || i >= size ? FAULT_INDEX : 0;
        }

        /** What it would find when CELL i is touched of this taken as of a lane; nothing is of every lane. */
        int faultAsOf(int lane, int i) {
            return size >= 0 && laneOf != lane ? FAULT_CAST : faultAt(i);
        }

        void put(int i, int v) {
            if (laneOf == 0) {
                cells[i] = (byte) v;
            } else {
                cells[i] = laneOf == 1 ? (short) v : v;
            }
        }
    }
}
