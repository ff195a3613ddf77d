import java.util.List;
import java.util.function.Consumer;
import java.util.function.ToLongFunction;

/** A call that is refused, or that only asks, changes nothing that the face tells. */
public final class RefusedTest {
    private static final int GREATEST = Integer.MAX_VALUE;
    private static final String TEXT_LEFT = "cap 77;tax 9;";

    private static Consumer<CapLeague> ahead;
    private static long[] before;

    public static void main(String[] args) {
        aheadOfTheDraft();
        behindTheDraft();
        inTheLastYear();
        fullTape();
        fullTrade();
        fullLeague();
        noRing();
        Due.done();
    }

    private static void from(Consumer<CapLeague> calls) {
        ahead = calls;
        before = Told.behind(calls);
    }

    /** The call answers as due and leaves all as it was, but for what is told by some names. */
    private static void refused(String call, long due, ToLongFunction<CapLeague> refused, String... but) {
        CapLeague x = new CapLeague();
        ahead.accept(x);
        Due.is(call, refused.applyAsLong(x), due);
        if (but.length == 0) {
            tapeIsLeft(call, x);
        }
        Told.same(call, Told.behind(y -> {
            ahead.accept(y);
            refused.applyAsLong(y);
        }), before, List.of(but));
    }

    private static void tapeIsLeft(String call, CapLeague x) {
        if (x.count(4) == TEXT_LEFT.length()) {
            Due.is(call + ": text as it was", x.laws(9), 2);
            Due.is(call + ": its cap", x.law(9, 0), 77);
            Due.is(call + ": its tax", x.law(9, 7), 9);
        }
    }

    /** The second year of a league in which all sorts of things have been, with two moves of a trade and a table. */
    private static void season(CapLeague x) {
        Due.laws(x, 0, "cap 100;spare 40;hurt 50;tax 50;match 120 5;lots 3 2 1;roster 3;");
        Due.laws(x, 3, "cap 200;years 5;");
        for (int p = 0; p < 12; p++) {
            x.player();
        }
        x.sign(0, 0, 3, 60, 10, 50, true);
        x.sign(1, 0, 2, 30, 0, 0, false);
        x.sign(2, 0, 1, 25, 0, 0, false);
        x.sign(3, 1, 3, 70, -40, 100, false);
        x.sign(4, 1, 4, 20, 5, 10, false);
        x.sign(5, 2, 2, 80, 0, 30, true);
        x.sign(6, 3, 4, 90, 1, 60, false);
        x.waive(6);
        x.giveTurn(0, 1, 1, 2);
        x.giveTurn(3, 2, 1, 0);
        x.giveTurn(4, 5, 0, 8);
        x.deal();
        Due.table(x, "BADCEFGH");
        x.draw(4, 3);
        x.next();
        x.sign(7, 4, 2, 100, 0, 100, false);
        x.sign(8, 4, 2, 40, 0, 100, true);
        x.hurt(4, true);
        x.hurt(9, true);
        worths(x);
        x.ring();
        Due.laws(x, 2, "cap 5;cap");
        Due.table(x, "HGFEDCBA");
        x.give(3, 2);
        x.giveTurn(2, 1, 1, 4);
        Due.tape(x, TEXT_LEFT);
    }

    private static void worths(CapLeague x) {
        for (int p = 0; p < 9; p++) {
            x.worth(p % 8, p, 100 + p);
            x.worth((p + 3) % 8, p, 900 - 50 * p);
            x.worthTurn(p % 8, (p + 1) % 8, p, 10 + p);
        }
        x.worth(1, 0, 500);
        x.worth(0, 3, 600);
        x.worth(0, 4, 700);
    }

    private static void aheadOfTheDraft() {
        Due.says("A call that is refused changes nothing");
        from(RefusedTest::season);
        Due.is("a ring was found", Told.answer(before, "ringed 0"), 2);
        Due.is("a fault was told", Told.answer(before, "fault 0"), 3);
        Due.is("a move is a gain", Told.answer(before, "gain 1"), 11);
        Due.is("a fine was paid", Told.answer(before, "purse 0"), 7);
        Due.is("spare was used", Told.answer(before, "club 4 1 3"), 1);
        ofTheTape();
        ofContracts();
        ofTrades();
        ofTheDraft();
        thatOnlyAsk();
    }

    private static void ofTheTape() {
        refused("end below 0", -1, x -> x.end(-1));
        refused("end beyond", -1, x -> x.end(TEXT_LEFT.length() + 1));
        refused("laws of a year below 0", -2, x -> x.laws(-1), "count 4");
        refused("laws of a year beyond", -2, x -> x.laws(10), "count 4");
        refused("laws of a year gone", -2, x -> x.laws(0), "count 4");
        refused("laws with a fault", -1, x -> Due.laws(x, 1, "tax 5;cap 0;"), "count 4", "fault 0", "fault 1");
        refused("laws with the fault of before", -1, x -> Due.laws(x, 2, "tax 5;tax"), "count 4");
        refused("table of another text", -1, CapLeague::table, "count 4");
    }

    private static void ofContracts() {
        refused("sign no one", -2, x -> x.sign(12, 0, 1, 1, 0, 0, false));
        refused("sign for no club", -2, x -> x.sign(9, 8, 1, 1, 0, 0, false));
        refused("sign for no years", -2, x -> x.sign(9, 5, 0, 1, 0, 0, false));
        refused("sign for no such pay", -2, x -> x.sign(9, 5, 1, 20001, 0, 0, false));
        refused("sign for no such rise", -2, x -> x.sign(9, 5, 1, 1, 501, 0, false));
        refused("sign for no such part", -2, x -> x.sign(9, 5, 1, 1, 0, 101, false));
        refused("sign for a choice of one year", -2, x -> x.sign(9, 5, 1, 1, 0, 0, true));
        refused("sign who has a contract", 0, x -> x.sign(0, 5, 1, 1, 0, 0, false));
        refused("sign for too many years", 0, x -> x.sign(9, 5, 5, 1, 0, 0, false));
        refused("sign above cap", 0, x -> x.sign(9, 5, 1, 101, 0, 0, false));
        refused("sign by spare again", 0, x -> x.sign(9, 4, 1, 1, 0, 0, false));
        refused("choose for no one", -2, x -> x.choose(-1));
        refused("choose without a contract", -4, x -> x.choose(9));
        refused("choose without a choice", -4, x -> x.choose(1));
        refused("waive no one", -2, x -> x.waive(GREATEST));
        refused("waive without a contract", -4, x -> x.waive(9));
        refused("hurt no one", -2, x -> x.hurt(12, true));
        refused("hurt already", 0, x -> x.hurt(4, true));
        refused("not hurt anyway", 0, x -> x.hurt(0, false));
    }

    private static void ofTrades() {
        refused("give no one", -2, x -> x.give(12, 0));
        refused("give to no club", -2, x -> x.give(0, 8));
        refused("give without a contract", -4, x -> x.give(9, 0));
        refused("give to its own", -4, x -> x.give(0, 0));
        refused("give once more", -4, x -> x.give(3, 0));
        refused("give turn of no club", -2, x -> x.giveTurn(8, 1, 0, 0));
        refused("give turn of a year gone", -2, x -> x.giveTurn(5, 0, 0, 0));
        refused("give turn to no club", -2, x -> x.giveTurn(0, 2, 8, 0));
        refused("give turn by no such k", -2, x -> x.giveTurn(0, 2, 1, 9));
        refused("give turn to its own", -4, x -> x.giveTurn(3, 2, 1, 0));
        refused("give turn once more", -4, x -> x.giveTurn(2, 1, 0, 0));
        refused("give turn that is protected", -4, x -> x.giveTurn(0, 1, 2, 0));
        refused("worth to no club", -2, x -> x.worth(8, 0, 1));
        refused("worth of no one", -2, x -> x.worth(0, 12, 1));
        refused("no such worth", -2, x -> x.worth(0, 0, 10000));
        refused("worth of a turn of no year", -2, x -> x.worthTurn(0, 0, 10, 1));
        refused("no such worth of a turn", -2, x -> x.worthTurn(0, 0, 0, -1));
        from(x -> {
            season(x);
            x.trade();
            x.give(1, 4);
        });
        refused("deal above cap", 0, CapLeague::deal);
        from(x -> {
            season(x);
            x.give(0, 3);
        });
        refused("give to a fifth club", -4, x -> x.give(1, 5));
        refused("give turn to a fifth club", -4, x -> x.giveTurn(3, 3, 5, 0));
        from(x -> {
            season(x);
            x.trade();
        });
        refused("deal without moves", -4, CapLeague::deal);
        refused("check without moves", -4, CapLeague::check);
    }

    private static void ofTheDraft() {
        from(RefusedTest::season);
        refused("draw by no such first", -2, x -> x.draw(6, 0));
        refused("draw by no such second", -2, x -> x.draw(0, 3));
        refused("next without a draft", -4, CapLeague::next);
    }

    private static void thatOnlyAsk() {
        Due.says("A call that only asks changes nothing");
        refused("wrong", 8, x -> x.wrong(9, 4, 1, 1, 0, 0, false));
        refused("not wrong", 0, x -> x.wrong(9, 5, 4, 100, 0, 0, false));
        refused("wrong for no club", -2, x -> x.wrong(9, 8, 1, 1, 0, 0, false));
        refused("fault", 3, x -> x.fault(0));
        refused("law", 200, x -> x.law(3, 0));
        refused("about", 1, x -> x.about(3, 0));
        refused("club", 140, x -> x.club(4, 1, 0));
        refused("check", 0, CapLeague::check);
        refused("gain of no club", -2000000000, x -> x.gain(8));
        refused("ringed", -1, x -> x.ringed(7));
        refused("ring again", ringSum(), CapLeague::ring);
        refused("chance", 1, x -> x.chance(7, 0, 0));
        refused("turn", 0, x -> x.turn(0, 0, 0));
        refused("owner", 1, x -> x.owner(0, 1, 0));
        refused("purse of no club", -2000000000, x -> x.purse(-1));
        refused("count", -1, x -> x.count(7));
    }

    private static long ringSum() {
        CapLeague x = new CapLeague();
        season(x);
        return x.ring();
    }

    private static void behindTheDraft() {
        Due.says("A call that is refused changes nothing, behind the draft too");
        from(x -> {
            season(x);
            x.draw(0, 0);
            x.give(3, 2);
            Due.tape(x, "ABCDEFGH");
        });
        refused("draw again", -4, x -> x.draw(0, 0));
        refused("table again", -4, CapLeague::table, "count 4");
        refused("turn of this year", -4, x -> x.giveTurn(6, 1, 1, 0));
        from(x -> {
            season(x);
            x.draw(0, 0);
            x.next();
        });
        refused("draw without a table", -4, x -> x.draw(0, 0));
        refused("chance without a table", -4, x -> x.chance(0, 0, 0));
        refused("next", -4, CapLeague::next);
    }

    private static void inTheLastYear() {
        Due.says("Promise 30: STATE: it is the last one: nothing ends");
        from(x -> {
            season(x);
            x.draw(0, 0);
            x.next();
            for (int year = 2; year < 9; year++) {
                Due.endYear(x);
            }
            x.sign(0, 0, 2, 90, 0, 0, true);
            x.hurt(0, true);
            Due.table(x, "ABCDEFGH");
            x.draw(0, 0);
        });
        refused("next", -4, CapLeague::next);
    }

    private static void fullTape() {
        Due.says("Promise 2: FULL: the tape is as it was");
        from(x -> Due.tape(x, "cap 77;" + " ".repeat(474)));
        refused("feed", -3, x -> x.feed(-1, -1, -1, -1, -1));
        CapLeague x = new CapLeague();
        ahead.accept(x);
        x.feed(-1, -1, -1, -1, -1);
        Due.is("its text", x.laws(0), 1);
    }

    private static void fullTrade() {
        Due.says("Promise 16, 17: FULL: the trade is as it was");
        from(x -> {
            x.player();
            x.player();
            x.sign(0, 0, 1, 1, 0, 0, false);
            x.sign(1, 1, 1, 1, 0, 0, false);
            for (int i = 0; i < 12; i++) {
                x.worthTurn(1, i / 10, i % 10, 5);
                x.giveTurn(i / 10, i % 10, i < 10 ? 1 : 0, i % 9);
            }
        });
        refused("give", -3, x -> x.give(0, 1));
        refused("give turn", -3, x -> x.giveTurn(1, 9, 0, 0));
    }

    private static void fullLeague() {
        Due.says("Promise 7: FULL: the players are as they were");
        from(x -> {
            for (int p = 0; p < 60; p++) {
                x.player();
                x.hurt(p, p % 2 == 0);
            }
            x.sign(59, 7, 2, 5, 5, 5, true);
        });
        refused("player", -3, CapLeague::player);
    }

    private static void noRing() {
        Due.says("Promise 23, 24: a ring() without a sum leaves what ringed() tells");
        from(x -> {
            season(x);
            Due.laws(x, 1, "roster 1;cap 1;match 0 0;");
            Due.tape(x, TEXT_LEFT);
        });
        refused("ring", -1, CapLeague::ring);
    }
}
