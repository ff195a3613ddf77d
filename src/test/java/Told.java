import java.util.ArrayList;
import java.util.List;
import java.util.function.Consumer;
import java.util.function.ToLongFunction;

/** All that the face tells behind some calls; asked of several objects, so that none is asked too often. */
final class Told {
    /** With the calls ahead of them, so many questions stay within the 512 calls of one object. */
    private static final int AT_ONCE = 300;

    private static final List<String> NAMES = new ArrayList<>();
    private static final List<ToLongFunction<CapLeague>> ASKS = new ArrayList<>();

    private Told() {
    }

    private static void ask(String name, ToLongFunction<CapLeague> asks) {
        NAMES.add(name);
        ASKS.add(asks);
    }

    private static void askAll() {
        for (int i = 0; i < 8; i++) {
            int what = i;
            ask("fault " + what, x -> x.fault(what));
            ask("ringed " + what, x -> x.ringed(what));
            ask("count " + what, x -> x.count(what));
            ask("gain " + what, x -> x.gain(what));
            ask("purse " + what, x -> x.purse(what));
        }
        ask("check", CapLeague::check);
        askOfClubs();
        askOfPlayers();
        askOfWorths();
    }

    private static void askOfClubs() {
        for (int n = 0; n < 80; n++) {
            int c = n / 10;
            int year = n % 10;
            for (int i = 0; i < 4; i++) {
                int what = i;
                ask("club " + c + " " + year + " " + what, x -> x.club(c, year, what));
                ask("law " + year + " " + (4 * c + what), x -> x.law(year, 4 * c + what));
            }
            for (int i = 0; i < 2; i++) {
                int what = i;
                ask("owner " + c + " " + year + " " + what, x -> x.owner(c, year, what));
                ask("turn " + year + " " + c + " " + what, x -> x.turn(year, c, what));
                ask("chance " + c + " " + year % 2 + " " + what, x -> x.chance(c, year % 2, what));
            }
        }
    }

    private static void askOfPlayers() {
        for (int n = 0; n < 60; n++) {
            int p = n;
            for (int i = 0; i < 20; i++) {
                int what = i;
                ask("about " + p + " " + what, x -> x.about(p, what));
            }
        }
    }

    /** To ask for a worth is to tell another one; each is asked once. */
    private static void askOfWorths() {
        for (int n = 0; n < 480; n++) {
            int c = n % 8;
            int p = n / 8;
            ask("worth " + c + " " + p, x -> x.worth(c, p, 0));
        }
        for (int n = 0; n < 640; n++) {
            int c = n % 8;
            int of = n / 8 % 8;
            int year = n / 64;
            ask("worth " + c + " of turn " + of + " " + year, x -> x.worthTurn(c, of, year, 0));
        }
    }

    static long[] behind(Consumer<CapLeague> calls) {
        if (ASKS.isEmpty()) {
            askAll();
        }
        long[] answers = new long[ASKS.size()];
        CapLeague x = null;
        for (int i = 0; i < answers.length; i++) {
            if (i % AT_ONCE == 0) {
                x = new CapLeague();
                calls.accept(x);
            }
            answers[i] = ASKS.get(i).applyAsLong(x);
        }
        return answers;
    }

    static long answer(long[] answers, String name) {
        return answers[NAMES.indexOf(name)];
    }

    /** All answers are the same, but for those of some names. */
    static void same(String what, long[] got, long[] want, List<String> but) {
        for (int i = 0; i < want.length; i++) {
            if (!but.contains(NAMES.get(i))) {
                Due.is(what + ": " + NAMES.get(i), got[i], want[i]);
            }
        }
    }
}
