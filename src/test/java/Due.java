import java.util.function.IntToLongFunction;

/** Compares answers with those that are due, and puts texts on the tape. */
final class Due {
    private static int asked = 0;
    private static int wrong = 0;
    private static String sentence = "";

    private Due() {
    }

    /** The words of the document that the next answers are due by. */
    static void says(String words) {
        sentence = words;
    }

    static void is(String call, long got, long want) {
        asked++;
        if (got != want) {
            wrong++;
            System.out.println(call + " answered " + got + ", due is " + want
                    + (sentence.isEmpty() ? "" : " (" + sentence + ")"));
        }
    }

    /** The same of many calls: what is asked of each of these numbers has one answer. */
    static void each(String call, IntToLongFunction asks, long want, int... numbers) {
        for (int number : numbers) {
            is(call + " of " + number, asks.applyAsLong(number), want);
        }
    }

    static void holds(String what, boolean is) {
        is(what, is ? 1 : 0, 1);
    }

    /** THE TAPE is this text alone. */
    static void tape(CapLeague x, String text) {
        x.end(0);
        for (int at = 0; at < text.length(); at += 20) {
            int[] five = new int[5];
            for (int i = 0; i < 20; i++) {
                int sign = at + i < text.length() ? text.charAt(at + i) : ' ';
                five[i / 4] = five[i / 4] << 8 | sign;
            }
            x.feed(five[0], five[1], five[2], five[3], five[4]);
        }
        x.end(text.length());
    }

    /** The answer of laws() to a text. */
    static int laws(CapLeague x, int year, String text) {
        tape(x, text);
        return x.laws(year);
    }

    /** The answer of table() to a text. */
    static int table(CapLeague x, String text) {
        tape(x, text);
        return x.table();
    }

    static CapLeague withPlayers(int players) {
        CapLeague x = new CapLeague();
        for (int i = 0; i < players; i++) {
            x.player();
        }
        return x;
    }

    /** The year's draft without lots (or by the first numbers of them), and the next year. */
    static int endYear(CapLeague x) {
        table(x, "ABCDEFGH");
        x.draw(0, 0);
        return x.next();
    }

    static void done() {
        System.out.println(asked + " answers, " + wrong + " not as due");
        if (wrong != 0 || asked == 0) {
            System.exit(1);
        }
    }
}
