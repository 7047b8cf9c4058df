import java.util.ArrayList;
import java.util.IdentityHashMap;
import java.util.List;
import java.util.Map;
import java.util.function.Consumer;
import java.util.function.IntFunction;
import java.util.function.ToIntFunction;

/**
 * "What is refused changes nothing": holds all that is answered after a refused call against what is answered
 * without it, by objects with the same past.
 */
final class Traces {
    static final int BAD = -1, MIN = Integer.MIN_VALUE, MAX = Integer.MAX_VALUE;

    /** An object that counts its calls, as no more than 512 are promised, and keeps what was looked at. */
    static final class Run {
        private final TongueSight x = new TongueSight();
        private final List<String> seen = new ArrayList<>();
        private int calls;

        int call(ToIntFunction<TongueSight> what) {
            calls++;
            if (calls > 512) {
                throw new IllegalStateException("more than 512 calls");
            }
            return what.applyAsInt(x);
        }

        void look(String name, ToIntFunction<TongueSight> what) {
            seen.add(name + " = " + call(what));
        }

        void feed(String text) {
            for (long v : Due.longs(text)) {
                call(x -> x.feed(v));
            }
            int over = (8 - text.length() % 8) % 8;
            int has = call(x -> x.count(5));
            call(x -> x.end(has - over));
        }

        int tell(String text) {
            feed(text);
            return call(TongueSight::text);
        }
    }

    /** Pasts from which a refused call is tried: none at all; something of everything; everything at its most. */
    static final Consumer<Run> NEW = run -> { };
    static final Consumer<Run> MIDST = Traces::midst;
    static final Consumer<Run> BRIM = Traces::brim;
    private static final List<Consumer<Run>> PASTS = List.of(NEW, MIDST, BRIM);

    private static final Consumer<Run> FAULT = run -> run.look("fault", TongueSight::fault);
    private static final List<Consumer<Run>> LOOKS = List.of(FAULT, Traces::lights, Traces::laws, Traces::pictures,
            Traces::tape, Traces::sheets, Traces::later);

    private final Due due;
    private final Map<Consumer<Run>, List<List<String>>> without = new IdentityHashMap<>();

    Traces(Due due) {
        this.due = due;
    }

    /** A number that is to be from low to high: taken there; just beyond, and far beyond, BAD and without a trace. */
    void bounds(String name, int low, int high, IntFunction<ToIntFunction<TongueSight>> call) {
        for (int v : new int[] {low, high}) {
            Run run = new Run();
            due.is(name + " " + v + " is BAD (1)", run.call(call.apply(v)) == BAD ? 1 : 0, 0);
        }
        for (int v : new int[] {low - 1, high + 1, MIN, MAX}) {
            refused(name + " " + v, BAD, call.apply(v));
        }
    }

    /** A call that is refused with this answer from every past. */
    void refused(String name, int want, ToIntFunction<TongueSight> call) {
        for (Consumer<Run> past : PASTS) {
            refusedAfter(past, name, want, call);
        }
    }

    void refusedAfter(Consumer<Run> past, String name, int want, ToIntFunction<TongueSight> call) {
        without.computeIfAbsent(past, p -> seenAfter(p));
        for (int i = 0; i < LOOKS.size(); i++) {
            Run run = new Run();
            past.accept(run);
            due.is(name, run.call(call), want);
            LOOKS.get(i).accept(run);
            due.same(name, run.seen, without.get(past).get(i));
        }
    }

    /** A call that only asks: whatever it answers, nothing later tells of it. */
    void asksOnly(String name, ToIntFunction<TongueSight> call) {
        for (Consumer<Run> past : PASTS) {
            Run run = new Run();
            past.accept(run);
            refusedAfter(past, name, run.call(call), call);
        }
    }

    /** Two pasts after which all is answered the same; but fault(), where a text is refused in one of them. */
    void same(String name, Consumer<Run> one, Consumer<Run> other, boolean faultToo) {
        for (Consumer<Run> look : LOOKS) {
            if (look != FAULT || faultToo) {
                due.same(name, seenBy(look, one), seenBy(look, other));
            }
        }
    }

    private static List<List<String>> seenAfter(Consumer<Run> past) {
        List<List<String>> all = new ArrayList<>();
        for (Consumer<Run> look : LOOKS) {
            all.add(seenBy(look, past));
        }
        return all;
    }

    private static List<String> seenBy(Consumer<Run> look, Consumer<Run> past) {
        Run run = new Run();
        past.accept(run);
        look.accept(run);
        return run.seen;
    }

    // ---- pasts

    private static void midst(Run run) {
        run.call(x -> x.sheet(1, 1, 64));
        for (int i = 0; i < 16; i++) {
            int cell = i * 5 % 64;
            int v = 1 + i % 9;
            run.call(x -> x.lay(1, cell, v));
        }
        run.call(x -> x.read(0, 1, 1, 0, 0, 64));
        run.call(x -> x.shift(0, 1, 1));
        run.call(x -> x.shift(0, 2, 4));
        run.call(x -> x.light(3, 9, 1));
        run.call(x -> x.light(4, 63, 9));
        run.call(x -> x.place(13));
        run.call(x -> x.tenths(0, 3));
        run.call(x -> x.tenths(1, 1));
        run.tell("way dark;spread 2;less 1;tire 5;most 7;least 3 4;least 15 2;dead 5;dead 10;round;mask 3;own 7;"
                + "led 2;still 1;there 50;");
        run.call(x -> x.tenths(0, 2));
        run.call(x -> x.move(0, 0, true));
        run.call(x -> x.move(1, 2, false));
        for (int i = 0; i < 5; i++) {
            int p = 3 * i;
            run.call(x -> x.answer(0, p, p, p == 6));
        }
        run.call(x -> x.sheet(0, 0, 5));
        for (int i = 0; i < 5; i++) {
            int cell = i;
            run.call(x -> x.lay(0, cell, 9 - cell));
        }
        run.call(x -> x.sheet(2, 2, 0));
        run.call(x -> x.read(3, 0, 0, 3, 60, 4));
        run.tell("most 0;");
        run.feed("way edges;less 2;own 13");
    }

    private static void brim(Run run) {
        run.call(x -> x.sheet(0, 0, 8));
        for (int i = 0; i < 8; i++) {
            int cell = i;
            run.call(x -> x.lay(0, cell, 9));
        }
        for (int i = 0; i < 8; i++) {
            int row = i;
            run.call(x -> x.read(0, 0, 0, 0, 8 * row, 8));
        }
        for (int i = 1; i < 6; i++) {
            int scene = i;
            run.call(x -> x.shift(0, scene, 0));
        }
        run.tell("still 20;");
        for (int i = 0; i < 3; i++) {
            run.call(x -> x.tenths(5, 20));
        }
        StringBuilder text = new StringBuilder("spread 4;less 3;tire 9;most 9;own 20;led 20;still 20;there 99;round;");
        for (int p = 1; p < 15; p++) {
            text.append("dead").append(p).append(';');
        }
        run.tell(text.toString());
        for (int i = 0; i < 4; i++) {
            int k = i;
            run.call(x -> x.sheet(k, k % 3, 64));
            run.call(x -> x.lay(k, 63, 9));
        }
        for (int i = 0; i < 12; i++) {
            int p = i;
            run.call(x -> x.answer(5, 25, p, p == 11));
        }
        run.call(x -> x.place(24));
        run.feed("way dark;" + " ".repeat(182) + "there 88;");
    }

    // ---- looks

    private static void lights(Run run) {
        for (int i = 0; i < 6 * 64; i++) {
            int scene = i / 64;
            int cell = i % 64;
            run.look("lightOf " + scene + " " + cell, x -> x.lightOf(scene, cell));
        }
    }

    private static void rules(Run run) {
        for (int i = 0; i < 36; i++) {
            int what = i;
            if (what < 12 || what >= 20) {
                run.look("rule " + what, x -> x.rule(what));
            }
        }
    }

    private static void laws(Run run) {
        rules(run);
        for (int i = 0; i < 16; i++) {
            int p = i;
            run.look("tired " + p, x -> x.tired(p));
            run.look("asks " + p, x -> x.asks(p, 9));
        }
        for (int i = 0; i < 7; i++) {
            int what = i;
            run.look("count " + what, x -> x.count(what));
        }
        for (int i = 0; i < 2; i++) {
            int what = i;
            run.look("head " + what, x -> x.head(what));
            run.look("lessons " + what, x -> x.lessons(what));
        }
        run.look("torn", TongueSight::torn);
        run.look("dead", TongueSight::dead);
        for (int i = 0; i < 16 * 4; i++) {
            int p = i / 4;
            int what = i % 4;
            run.look("point 0 " + p + " " + what, x -> x.point(0, p, what));
            run.look("heard 0 " + p, x -> x.heard(0, p % 4, p / 4));
        }
    }

    private static void pictures(Run run) {
        for (int i = 0; i < 6 * 3; i++) {
            int scene = i / 3;
            int what = i % 3;
            run.look("feels " + scene + " " + what, x -> x.feels(scene, what));
            run.look("beside " + what, x -> x.beside(what));
        }
        for (int i = 0; i < 36; i++) {
            int a = i / 6;
            int b = i % 6;
            run.look("alike " + a + " " + b, x -> x.alike(a, b));
            run.look("sounds " + a + " " + b, x -> x.sounds(a, b));
            run.look("parted " + a + " " + b, x -> x.parted(a, b, (a + b) % 3));
            run.look("foretell " + a + " " + b, x -> x.foretell(a, b, (a + b) % 2));
        }
        for (int i = 0; i < 8; i++) {
            int m = i / 2;
            int what = i % 2;
            run.look("right 63 " + m + " " + what, x -> x.right(63, m, what));
            run.look("needs " + (3 << m), x -> x.needs(3 << m));
        }
    }

    /** What stands on THE TAPE is seen when a text is made of it. */
    private static void tape(Run run) {
        run.look("count 5", x -> x.count(5));
        run.look("feed", x -> x.feed(0x3b726f756e643b20L));
        run.look("text", TongueSight::text);
        run.look("fault", TongueSight::fault);
        rules(run);
    }

    private static void sheets(Run run) {
        for (int i = 0; i < 4 * 3; i++) {
            int k = i / 3;
            int lane = i % 3;
            run.look("read of sheet " + k + " lane " + lane, x -> x.read(0, k, lane, 0, 0, 64));
            run.look("torn", TongueSight::torn);
            for (int cell = 0; cell < 64 && lane == k % 3; cell++) {
                int at = cell;
                run.look("cell " + at + " of sheet " + k, x -> x.lightOf(0, at));
            }
        }
    }

    /** Calls that change something, so that what they change is seen, too. */
    private static void later(Run run) {
        for (int i = 0; i < 36; i++) {
            int scene = i % 6;
            int move = i / 6;
            run.look("move " + scene + " " + move, x -> x.move(scene, move, scene % 2 == 0));
            run.look("tenths " + scene, x -> x.tenths(scene, 1));
            run.look("head", x -> x.head(0));
        }
        for (int i = 0; i < 16; i++) {
            int p = i;
            run.look("kill " + p, x -> x.kill(p, p % 2 == 0));
            run.look("answer " + p, x -> x.answer(p % 6, p, p, false));
        }
        run.look("dead", TongueSight::dead);
        run.look("rest", TongueSight::rest);
        run.look("forget", TongueSight::forget);
        for (int i = 0; i < 4; i++) {
            int k = i;
            run.look("lay " + k, x -> x.lay(k, 4, 3));
            run.look("read " + k, x -> x.read(k, k, k % 3, 4, 60, 2));
            run.look("torn", TongueSight::torn);
        }
        run.look("shift", x -> x.shift(1, 5, 2));
        run.look("light", x -> x.light(5, 30, 2));
        run.look("place", x -> x.place(3));
        run.look("end", x -> x.end(0));
    }
}
