/** The fewest hours against the model's walk through all states, for every own and led. */
public final class LessonsTest {
    private static final int[] GOALS = {1, 2, 7, 13, 20, 37, 40, 60, 81, 99};

    public static void main(String[] args) {
        Due due = new Due();
        for (int own = 0; own <= 20; own++) {
            for (int led = 0; led <= 20; led++) {
                for (int there : GOALS) {
                    ask(due, "own " + own + ";led " + led + ";there " + there + ";");
                }
            }
        }
        due.end();
    }

    private static void ask(Due due, String text) {
        TongueSight x = new TongueSight();
        Model y = new Model();
        Due.feed(x, text);
        for (long v : Due.longs(text)) {
            y.feed(v);
        }
        due.is(text, x.text(), y.text());
        due.is(text + " lessons(0)", x.lessons(0), y.lessons(0));
        due.is(text + " lessons(1)", x.lessons(1), y.lessons(1));
    }
}
