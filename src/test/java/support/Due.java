import java.util.List;

/** Counts and prints answers that are not as due; feeds texts to THE TAPE. */
final class Due {
    private int asked;
    private int wrong;

    void is(String call, long got, long want) {
        asked++;
        if (got != want) {
            wrong++;
            System.out.println(call + " answered " + got + ", due is " + want);
        }
    }

    /** Two rows of answers, each with its call: the first that is not the same is printed. */
    void same(String what, List<String> got, List<String> want) {
        asked++;
        if (got.equals(want)) {
            return;
        }
        wrong++;
        int i = 0;
        while (i < got.size() && i < want.size() && got.get(i).equals(want.get(i))) {
            i++;
        }
        System.out.println(what + ": answered later " + (i < got.size() ? got.get(i) : "nothing") + ", due is "
                + (i < want.size() ? want.get(i) : "nothing"));
    }

    void end() {
        System.out.println(asked + " answers asked, " + wrong + " not as due");
        if (wrong != 0 || asked == 0) {
            System.exit(1);
        }
    }

    /** Feeds all bytes of a text: the last eight are filled up and cut by end(). */
    static void feed(TongueSight x, String text) {
        int before = x.count(5);
        for (long v : longs(text)) {
            x.feed(v);
        }
        x.end(before + text.length());
    }

    static long[] longs(String text) {
        long[] row = new long[(text.length() + 7) / 8];
        for (int i = 0; i < row.length * 8; i++) {
            int c = i < text.length() ? text.charAt(i) : ' ';
            row[i / 8] = row[i / 8] << 8 | c & 255;
        }
        return row;
    }

    static int tell(TongueSight x, String text) {
        feed(x, text);
        return x.text();
    }
}
