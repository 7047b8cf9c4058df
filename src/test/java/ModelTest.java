import java.util.Random;

/** Long runs of calls, with a fixed seed, answered by the class and by the model. */
public final class ModelTest {
    private static final int OBJECTS = 600, CALLS = 512;
    private static final String[] LINES = {"way plain;", "way dark ;", "way edges;", "round;", "spread ", "less ",
        "tire ", "most ", "mask ", "own ", "led ", "still ", "there ", "dead ", "least "};
    private static final int[] HIGHEST = {4, 3, 9, 9, 9, 20, 20, 20, 99, 15, 15};
    private static final String SPOILS = "  ;;a9z0[A~plain way 5 123 least dead round";

    private final Random random;
    private final TongueSight x = new TongueSight();
    private final Model y = new Model();
    private final StringBuilder story = new StringBuilder();
    private final int scenes;

    private ModelTest(int seed) {
        random = new Random(seed);
        scenes = random.nextInt(3);
    }

    public static void main(String[] args) {
        for (int seed = 0; seed < OBJECTS; seed++) {
            new ModelTest(seed).run(seed);
        }
        System.out.println(OBJECTS + " objects answered " + CALLS + " calls each as the model does");
    }

    private void run(int seed) {
        for (int i = 0; i < CALLS; i++) {
            story.setLength(0);
            int[] answers = random.nextInt(12) == 0 ? text() : call(random.nextInt(41));
            if (answers[0] != answers[1]) {
                System.out.println("object " + seed + ", call " + i + ": " + story + " answered " + answers[0]
                        + ", the model " + answers[1]);
                System.exit(1);
            }
        }
    }

    /** A number from 0 to most, now and then one outside. */
    private int upTo(int most) {
        int v = random.nextInt(most + 1);
        if (random.nextInt(60) == 0) {
            int[] odd = {-1, most + 1, Integer.MIN_VALUE, Integer.MAX_VALUE, -most, most + 2};
            v = odd[random.nextInt(odd.length)];
        }
        story.append(v).append(' ');
        return v;
    }

    private boolean coin() {
        boolean b = random.nextBoolean();
        story.append(b).append(' ');
        return b;
    }

    private int[] both(int a, int b) {
        return new int[] {a, b};
    }

    private int scene() {
        return upTo(5);
    }

    /** Lights are few in some runs, so that pictures are alike often. */
    private int brightness() {
        return scenes == 0 ? upTo(9) : random.nextInt(3) == 0 ? upTo(9) : upTo(1) * 4;
    }

    private int[] text() {
        StringBuilder text = new StringBuilder();
        for (int i = random.nextInt(9); i >= 0; i--) {
            text.append(line());
        }
        if (random.nextInt(3) == 0) {
            int at = random.nextInt(text.length() + 1);
            int from = random.nextInt(SPOILS.length());
            text.insert(at, SPOILS, from, Math.min(SPOILS.length(), from + 1 + random.nextInt(3)));
        }
        if (random.nextInt(6) == 0) {
            text.setLength(random.nextInt(text.length() + 1));
        }
        String all = text.length() > 190 ? text.substring(0, 190) : text.toString();
        x.end(0);
        y.end(0);
        for (long v : Due.longs(all)) {
            x.feed(v);
            y.feed(v);
        }
        x.end(all.length());
        y.end(all.length());
        story.append("text <").append(all).append("> ");
        int[] answers = both(x.text(), y.text());
        return answers[0] == answers[1] ? both(x.fault(), y.fault()) : answers;
    }

    private String line() {
        int kind = random.nextInt(LINES.length);
        if (kind < 4) {
            return LINES[kind];
        }
        int most = HIGHEST[kind - 4];
        int n = Math.min(99, random.nextInt(most + 1) + (random.nextInt(25) == 0 ? 1 : 0));
        n = n == 0 && random.nextInt(4) > 0 ? 1 : n;
        String line = LINES[kind] + n;
        if (kind == LINES.length - 1) {
            line += " " + (1 + random.nextInt(random.nextInt(20) == 0 ? 10 : 9));
        }
        return line + (random.nextBoolean() ? ";" : " ; ");
    }

    private int[] call(int which) {
        story.append("call ").append(which).append(": ");
        return which < 14 ? early(which) : which < 27 ? middle(which) : late(which);
    }

    private int[] early(int which) {
        int a;
        int b;
        int c;
        switch (which) {
            case 0:
                long v = random.nextLong();
                return both(x.feed(v), y.feed(v));
            case 1:
                a = upTo(60);
                return both(x.end(a), y.end(a));
            case 2:
                return both(x.fault(), y.fault());
            case 3:
                a = upTo(36);
                return both(x.rule(a), y.rule(a));
            case 4:
            case 5:
            case 6:
                a = scene();
                b = upTo(63);
                c = brightness();
                return both(x.light(a, b, c), y.light(a, b, c));
            case 7:
                a = scene();
                b = upTo(63);
                return both(x.lightOf(a, b), y.lightOf(a, b));
            case 8:
                a = scene();
                b = scene();
                c = upTo(scenes == 2 ? 1 : 7);
                return both(x.shift(a, b, c), y.shift(a, b, c));
            case 9:
                a = upTo(25);
                return both(x.place(a), y.place(a));
            case 10:
                a = upTo(25);
                b = upTo(5);
                return both(x.leads(a, b), y.leads(a, b));
            case 11:
                a = scene();
                b = upTo(15);
                c = upTo(3);
                return both(x.point(a, b, c), y.point(a, b, c));
            case 12:
                a = scene();
                b = upTo(2);
                return both(x.feels(a, b), y.feels(a, b));
            default:
                a = scene();
                b = upTo(20);
                return both(x.tenths(a, b), y.tenths(a, b));
        }
    }

    private int[] middle(int which) {
        int a;
        int b;
        int c;
        switch (which) {
            case 14:
                a = upTo(15);
                return both(x.tired(a), y.tired(a));
            case 15:
                return random.nextInt(4) == 0 ? both(x.rest(), y.rest()) : both(x.count(2), y.count(2));
            case 16:
                a = scene();
                b = scene();
                return both(x.alike(a, b), y.alike(a, b));
            case 17:
                a = scene();
                b = scene();
                c = upTo(2);
                return both(x.parted(a, b, c), y.parted(a, b, c));
            case 18:
                a = upTo(63);
                b = upTo(3);
                c = upTo(1);
                return both(x.right(a, b, c), y.right(a, b, c));
            case 19:
                a = upTo(63);
                return both(x.needs(a), y.needs(a));
            case 20:
                a = scene();
                b = upTo(5);
                boolean own = coin();
                return both(x.move(a, b, own), y.move(a, b, own));
            case 21:
                a = scene();
                b = upTo(5);
                c = upTo(1);
                return both(x.foretell(a, b, c), y.foretell(a, b, c));
            case 22:
                a = upTo(1);
                return both(x.head(a), y.head(a));
            case 23:
                return random.nextInt(6) == 0 ? both(x.forget(), y.forget()) : both(x.head(0), y.head(0));
            case 24:
                a = upTo(1);
                return both(x.lessons(a), y.lessons(a));
            case 25:
                a = upTo(15);
                b = upTo(9);
                return both(x.asks(a, b), y.asks(a, b));
            default:
                a = scene();
                b = upTo(3);
                c = upTo(3);
                return both(x.heard(a, b, c), y.heard(a, b, c));
        }
    }

    private int[] late(int which) {
        int a;
        int b;
        int c;
        switch (which) {
            case 27:
                a = scene();
                b = scene();
                return both(x.sounds(a, b), y.sounds(a, b));
            case 28:
                a = upTo(2);
                return both(x.beside(a), y.beside(a));
            case 29:
                a = scene();
                b = upTo(25);
                c = upTo(15);
                boolean felt = random.nextInt(4) == 0;
                return both(x.answer(a, b, c, felt), y.answer(a, b, c, felt));
            case 30:
            case 31:
                return both(x.dead(), y.dead());
            case 32:
                a = upTo(15);
                boolean is = coin();
                return both(x.kill(a, is), y.kill(a, is));
            case 33:
                a = upTo(3);
                b = upTo(2);
                c = upTo(64);
                return both(x.sheet(a, b, c), y.sheet(a, b, c));
            case 34:
            case 35:
            case 36:
                a = upTo(3);
                b = upTo(random.nextBoolean() ? 10 : 64);
                c = random.nextInt(3) == 0 ? upTo(10) + 65536 * random.nextInt(2) : upTo(9);
                return both(x.lay(a, b, c), y.lay(a, b, c));
            case 37:
            case 38:
                return sheetRead();
            case 39:
                return both(x.torn(), y.torn());
            default:
                a = upTo(6);
                return both(x.count(a), y.count(a));
        }
    }

    private int[] sheetRead() {
        int scene = scene();
        int k = upTo(3);
        int lane = upTo(2);
        int f = random.nextBoolean() ? upTo(8) : upTo(63);
        int c = upTo(random.nextBoolean() ? 16 : 64);
        int n = random.nextInt(8) == 0 ? 0 : random.nextBoolean() ? upTo(10) : upTo(64);
        return both(x.read(scene, k, lane, f, c, n), y.read(scene, k, lane, f, c, n));
    }
}
