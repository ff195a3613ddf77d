/** The edges that Terms I and promises 1 to 6 name: one test for each sentence with one. */
public final class EdgeLawsTest {
    private static final String[] WORDS = {"cap", "roster", "years", "spare", "match", "hurt", "tax", "lots"};
    private static final String[] LINES = {
        "cap 1;", "roster 1;", "years 1;", "spare 1;", "match 1 1;", "hurt 1;", "tax 1;", "lots 2 3;"
    };
    private static final int[] UNTOLD = {1000, 15, 4, 0, 100, 0, 0, 0, 1};
    private static final int[] OUT = {Integer.MIN_VALUE, -1, 10, 11, 256, Integer.MAX_VALUE};

    public static void main(String[] args) {
        objectIsGoodFor512Calls();
        newObject();
        feedTellsHowManyBytes();
        feedIsFullBehind500();
        highestByteFirst();
        endCutsAndKeeps();
        endIsNoneBeyond();
        tapeOf500BytesIsRead();
        yearOfLawsIsTheClocksOrLater();
        tapeIsEmptyThen();
        lawsToldAnewAreTheseAlone();
        faultLeavesTheLaws();
        textIsToldAheadOfItsYearsEnd();
        yearWithoutTextHasThoseBefore();
        aheadOfAnyThoseWithoutText();
        whatIsNotTold();
        onlyTwoBytesAreBlanks();
        blanksMayBeLeftOut();
        wordsAreAsLongAsTheyAre();
        numbersHaveFiveDigitsAtMost();
        numbersThatWouldWrapAround();
        textMayBeEmpty();
        lineEndsWithItsMark();
        lotsHaveOneToSix();
        bounds();
        placeIsTheTokensFirstByte();
        placeAtTheEndIsTheLength();
        firstFaultComeTo();
        leastKindOfOneToken();
        tokensThatDoNotGoOn();
        bytesThatAreNoTokens();
        toldTwice();
        faultOfTheLatestNotRange();
        faultAheadOfAny();
        faultOfNothingElse();
        lawOfNothingElse();
        Due.done();
    }

    private static void objectIsGoodFor512Calls() {
        Due.says("An object is used for at most 512 calls after it has been made");
        CapLeague x = new CapLeague();
        for (int call = 1; call < 512; call++) {
            Due.is("call " + call, x.trade(), 1);
        }
        Due.is("call 512", x.player(), 0);
    }

    private static void newObject() {
        Due.says("Promise 1: YEAR 0, no PLAYERS, no LAWS told; Terms I: the CLOCK's YEAR is 0 at first");
        CapLeague x = new CapLeague();
        Due.is("year", x.count(0), 0);
        Due.is("its laws may be told", x.laws(0), 0);
        x = new CapLeague();
        Due.is("players", x.count(1), 0);
        Due.is("no player 0", x.about(0, 0), -9);
        for (int what = 0; what < UNTOLD.length; what++) {
            Due.is("law " + what, x.law(0, what), UNTOLD[what]);
        }
    }

    private static void feedTellsHowManyBytes() {
        Due.says("Promise 2: Twenty bytes come behind THE TAPE: how many it has");
        CapLeague x = new CapLeague();
        Due.is("on an empty one", x.feed(0, 0, 0, 0, 0), 20);
        x.end(1);
        Due.is("behind one byte", x.feed(0, 0, 0, 0, 0), 21);
        x.end(0);
        Due.is("behind none", x.feed(-1, -1, -1, -1, -1), 20);
    }

    private static void feedIsFullBehind500() {
        Due.says("Promise 2: FULL when there would be more than 500");
        CapLeague x = new CapLeague();
        for (int i = 1; i <= 25; i++) {
            Due.is("feed " + i, x.feed(i, i, i, i, i), 20 * i);
        }
        Due.is("behind 500", x.feed(0, 0, 0, 0, 0), -3);
        Due.is("500 as they were", x.count(4), 500);
        x.end(481);
        Due.is("behind 481", x.feed(0, 0, 0, 0, 0), -3);
        Due.is("481 as they were", x.count(4), 481);
        x.end(480);
        Due.is("behind 480", x.feed(0, 0, 0, 0, 0), 500);
    }

    private static void highestByteFirst() {
        Due.says("Promise 2: the highest of each int first");
        CapLeague x = new CapLeague();
        x.feed(0x63617020, 0x3132333b, 0x726f7374, 0x65723132, 0x3b746178);
        x.feed(0x32393920, 0x3b202020, 0x20202020, 0x20202020, 0x20202020);
        Due.is("cap 123;roster12;tax299 ;", x.laws(0), 3);
        Due.is("cap", x.law(0, 0), 123);
        Due.is("roster", x.law(0, 1), 12);
        Due.is("tax", x.law(0, 7), 299);
    }

    private static void endCutsAndKeeps() {
        Due.says("Promise 3: THE TAPE has its first n bytes alone: n");
        CapLeague x = new CapLeague();
        Due.is("0 of none", x.end(0), 0);
        Due.tape(x, "cap 12345678;");
        Due.is("all of them", x.end(13), 13);
        Due.is("some", x.end(7), 7);
        x.feed(0x3b202020, 0x20202020, 0x20202020, 0x20202020, 0x20202020);
        Due.is("cap 123;", x.laws(0), 1);
        Due.is("the first ones", x.law(0, 0), 123);
    }

    private static void endIsNoneBeyond() {
        Due.says("Promise 3: NONE when it has not so many, or n is below 0");
        CapLeague x = new CapLeague();
        Due.is("1 of none", x.end(1), -1);
        Due.tape(x, "cap 5;");
        Due.each("end", x::end, -1, 7, 20, 500, 501, Integer.MAX_VALUE, -1, -6, Integer.MIN_VALUE);
        Due.is("bytes as they were", x.count(4), 6);
        Due.is("text as it was", x.laws(0), 1);
    }

    private static void tapeOf500BytesIsRead() {
        Due.says("Terms I: THE TAPE has at most 500 bytes");
        CapLeague x = new CapLeague();
        Due.is("500 bytes", Due.laws(x, 0, " ".repeat(493) + "cap 42;"), 1);
        Due.is("the last ones too", x.law(0, 0), 42);
        fault(" ".repeat(497) + "cap", 1, 500);
        fault(" ".repeat(499) + "?", 1, 499);
        fault("\n".repeat(488) + "cap 5;cap 5;", 3, 494);
        fault("cap " + "9".repeat(496), 1, 4);
        fault("z".repeat(500), 1, 0);
    }

    private static void yearOfLawsIsTheClocksOrLater() {
        Due.says("Promise 4: the LAWS of a YEAR (the CLOCK's or later); RANGE: no such YEAR");
        for (int clock = 0; clock < 10; clock++) {
            CapLeague x = inYear(clock);
            for (int year = 0; year < 10; year++) {
                Due.is("year " + year + " in " + clock, Due.laws(x, year, "cap 5;"), year < clock ? -2 : 1);
            }
            Due.each("laws in " + clock, x::laws, -2, OUT);
        }
    }

    private static void tapeIsEmptyThen() {
        Due.says("Promise 4: THE TAPE (read, and empty then)");
        CapLeague x = new CapLeague();
        String[] texts = {"cap 5;", "cap", "", "?"};
        for (String text : texts) {
            for (int year : new int[] {-1, 0, 9, 10}) {
                Due.laws(x, year, text);
                Due.is("'" + text + "' " + year, x.count(4), 0);
            }
        }
        Due.laws(x, 0, "cap 77;");
        Due.is("an empty tape tells nothing", x.laws(0), 0);
        Due.is("cap", x.law(0, 0), 1000);
    }

    private static void lawsToldAnewAreTheseAlone() {
        Due.says("Promise 4: told anew they are these alone: how many lines");
        CapLeague x = new CapLeague();
        StringBuilder all = new StringBuilder();
        for (int lines = 1; lines <= 8; lines++) {
            all.append(LINES[lines - 1]);
            Due.is("lines", Due.laws(x, 3, all.toString()), lines);
        }
        Due.is("one", Due.laws(x, 3, "hurt 9;"), 1);
        for (int what = 0; what < UNTOLD.length; what++) {
            Due.is("law " + what, x.law(3, what), what == 6 ? 9 : UNTOLD[what]);
        }
        Due.is("its lot", x.law(3, 10), 1);
        Due.is("no second lot", x.law(3, 11), -9);
        Due.is("none at all", Due.laws(x, 3, ""), 0);
        Due.is("hurt", x.law(3, 6), 0);
    }

    private static void faultLeavesTheLaws() {
        Due.says("Promise 4: NONE with a FAULT");
        CapLeague x = new CapLeague();
        Due.laws(x, 2, "cap 7;lots 4 5;");
        String[] texts = {"cap 9;lots 1 2 3 4 5 6 7;", "cap 9;cap 9;", "cap 9;tax 301;", "lots 8 9;cap", "cap 9;;"};
        for (String text : texts) {
            Due.is("'" + text + "'", Due.laws(x, 2, text), -1);
            Due.is("cap as it was", x.law(2, 0), 7);
            Due.is("lots as they were", x.law(2, 8), 2);
            Due.is("lot as it was", x.law(2, 10), 4);
            Due.is("'" + text + "' in a year without one", Due.laws(x, 5, text), -1);
            Due.is("those of the year before still", x.law(5, 0), 7);
        }
    }

    private static void textIsToldAheadOfItsYearsEnd() {
        Due.says("Terms I: its text is told ahead of its end");
        CapLeague x = new CapLeague();
        Due.table(x, "ABCDEFGH");
        x.draw(0, 0);
        Due.is("behind the draft", Due.laws(x, 0, "cap 50;tax 100;"), 1 + 1);
        x.next();
        Due.is("behind its end", Due.laws(x, 0, "cap 60;"), -2);
        Due.is("cap", x.law(0, 0), 50);
    }

    private static void yearWithoutTextHasThoseBefore() {
        Due.says("Terms I: for a YEAR without one those of the YEAR before");
        CapLeague x = new CapLeague();
        Due.laws(x, 4, "cap 44;lots 2 3 4;");
        Due.laws(x, 8, "roster 8;");
        int[] caps = {1000, 1000, 1000, 1000, 44, 44, 44, 44, 1000, 1000};
        for (int year = 0; year < 10; year++) {
            Due.is("cap of " + year, x.law(year, 0), caps[year]);
            Due.is("lots of " + year, x.law(year, 8), caps[year] == 44 ? 3 : 1);
            Due.is("roster of " + year, x.law(year, 1), year >= 8 ? 8 : 15);
        }
        Due.laws(x, 9, "cap 99;");
        Due.is("the last one's own", x.law(9, 0), 99);
        Due.is("not those of the year before it", x.law(9, 1), 15);
        Due.laws(x, 0, "cap 1;");
        Due.is("told later of an earlier one", x.law(3, 0), 1);
        Due.is("a text of its own stays", x.law(4, 0), 44);
    }

    private static void aheadOfAnyThoseWithoutText() {
        Due.says("Terms I: ahead of any those without a text");
        CapLeague x = new CapLeague();
        Due.laws(x, 9, "cap 5;roster 5;years 5;spare 5;match 5 5;hurt 5;tax 5;lots 5 5;");
        for (int year = 0; year < 9; year++) {
            for (int what = 0; what < UNTOLD.length; what++) {
                Due.is("law " + year + " " + what, x.law(year, what), UNTOLD[what]);
            }
        }
    }

    private static void whatIsNotTold() {
        Due.says("Terms I: What isn't told: cap 1000, roster 15, years 4, spare 0, match 100 0, hurt 0, tax 0, lots 1");
        for (int line = 0; line < LINES.length; line++) {
            CapLeague x = new CapLeague();
            Due.is(LINES[line], Due.laws(x, 0, LINES[line]), 1);
            for (int what = 0; what < UNTOLD.length; what++) {
                boolean isTold = lineOf(what) == line;
                int told = what == 8 ? 2 : 1;
                Due.is(LINES[line] + " law " + what, x.law(0, what), isTold ? told : UNTOLD[what]);
            }
        }
    }

    /** The line in which a number of law() stands: match has two. */
    private static int lineOf(int what) {
        return what <= 4 ? what : what - 1;
    }

    private static void onlyTwoBytesAreBlanks() {
        Due.says("Terms I: TOKENS with any blanks (32, 10) between");
        for (int sign = 0; sign < 256; sign++) {
            String text = "cap" + (char) sign + "5;";
            boolean isBlank = sign == 32 || sign == 10;
            boolean isDigit = sign >= 48 && sign <= 57;
            boolean isLetter = sign >= 97 && sign <= 122;
            if (isBlank || isDigit) {
                fine(text, 1);
            } else {
                fault(text, 1, isLetter ? 0 : 3);
            }
        }
        fine(" \n\n  cap \n 5\n\n;   \n tax 5 ; \n", 2);
    }

    private static void blanksMayBeLeftOut() {
        Due.says("Terms I: any blanks between: none too, where bytes are as many as there are");
        CapLeague x = new CapLeague();
        Due.is("none", Due.laws(x, 0, "cap2;match3 4;lots5 6;tax7;"), 4);
        Due.is("cap", x.law(0, 0), 2);
        Due.is("match", x.law(0, 4), 3);
        Due.is("match more", x.law(0, 5), 4);
        Due.is("second lot", x.law(0, 11), 6);
        fault("match30040;", 2, 5);
        fault("match3004;", 2, 5);
        fault("match300;", 1, 8);
        fault("captax5;", 1, 0);
    }

    private static void wordsAreAsLongAsTheyAre() {
        Due.says("Terms I: WORDS (small letters, as many as there are)");
        for (String word : WORDS) {
            String numbers = word.equals("match") ? " 5 5;" : " 5;";
            fine(word + numbers, 1);
            fault(word + "a" + numbers, 1, 0);
            fault("z" + word + numbers, 1, 0);
            fault("z" + word.substring(1) + numbers, 1, 0);
            fault(word.substring(0, word.length() - 1) + "q" + numbers, 1, 0);
            fault(word + word + numbers, 1, 0);
            fault(word.substring(1) + numbers, 1, 0);
            fault(word.substring(0, word.length() - 1) + numbers, 1, 0);
            fault(word.substring(0, 1) + " " + word.substring(1) + numbers, 1, 0);
            fault(word.toUpperCase() + numbers, 1, 0);
            fault(word.substring(0, 2) + word.substring(2).toUpperCase() + numbers, 1, 0);
            fault(word.substring(0, word.length() - 1) + "{" + numbers, 1, 0);
            fault(word + "`" + numbers, 1, word.length());
            fault(word + "{" + numbers, 1, word.length());
        }
    }

    private static void numbersHaveFiveDigitsAtMost() {
        Due.says("Terms I: NUMBERS (digits, as many as there are, 5 at most); a NUMBER of six digits");
        CapLeague x = new CapLeague();
        String[] fives = {"7", "07", "007", "0007", "00007"};
        for (String number : fives) {
            Due.is(number, Due.laws(x, 0, "cap " + number + ";"), 1);
            Due.is("is 7", x.law(0, 0), 7);
        }
        fault("cap 000007;", 1, 4);
        fine("cap 50000;", 1);
        fault("cap 99999;", 2, 4);
        fault("cap 100000;", 1, 4);
        fault("match 5 000005;", 1, 8);
        fault("lots 5 000005;", 1, 7);
        fault("cap 5/;", 1, 5);
        fault("cap 5:;", 1, 5);
        fault("cap /5;", 1, 4);
        fault("cap :5;", 1, 4);
    }

    private static void numbersThatWouldWrapAround() {
        Due.says("Terms I: a NUMBER of six digits: however many more there are");
        fault("cap 4294967296;", 1, 4);
        fault("cap 4294967301;", 1, 4);
        fault("cap 18446744073709551621;", 1, 4);
        fault("cap " + "0".repeat(300) + "5;", 1, 4);
    }

    private static void textMayBeEmpty() {
        Due.says("Terms I: text = {line \";\"}: no line too");
        fine("", 0);
        fine(" ", 0);
        fine("\n \n", 0);
        fine(" ".repeat(500), 0);
    }

    private static void lineEndsWithItsMark() {
        Due.says("Terms I: text = {line \";\"}: each line has its mark, and but one");
        for (String line : LINES) {
            String open = line.substring(0, line.length() - 1);
            fine(line, 1);
            fault(open, 1, open.length());
            fault(open + " ", 1, open.length() + 1);
            fault(line + ";", 1, line.length());
            fault(";" + line, 1, 0);
        }
        fault("cap 5 tax 5;", 1, 6);
    }

    private static void lotsHaveOneToSix() {
        Due.says("Terms I: of lots 1 .. 6 N, each 1 .. 20; the seventh N of lots");
        fault("lots;", 1, 4);
        StringBuilder text = new StringBuilder("lots");
        for (int n = 1; n <= 6; n++) {
            text.append(' ').append(n == 6 ? 20 : n);
            CapLeague x = new CapLeague();
            Due.is(text + ";", Due.laws(x, 0, text + ";"), 1);
            Due.is("how many", x.law(0, 8), n);
            for (int i = 0; i < 6; i++) {
                int due = i == 5 ? 20 : i + 1;
                Due.is("lot " + i, x.law(0, 10 + i), i < n ? due : -9);
            }
            fault(text + " 0;", n == 6 ? 1 : 2, text.length() + 1);
            fault(text + " 21;", n == 6 ? 1 : 2, text.length() + 1);
        }
        fault(text + " 7;", 1, text.length() + 1);
    }

    private static void bounds() {
        Due.says("Terms I: Bounds; 2 RANGE: an N out of its bounds");
        bound("cap ", ";", 0, 1, 50000);
        bound("roster ", ";", 1, 1, 15);
        bound("years ", ";", 2, 1, 5);
        bound("spare ", ";", 3, 0, 5000);
        bound("match ", " 7;", 4, 0, 300);
        bound("match 7 ", ";", 5, 0, 5000);
        bound("hurt ", ";", 6, 0, 100);
        bound("tax ", ";", 7, 0, 300);
        bound("lots ", ";", 10, 1, 20);
        bound("lots 7 ", ";", 11, 1, 20);
        bound("lots 7 7 7 7 7 ", ";", 15, 1, 20);
    }

    private static void bound(String ahead, String behind, int what, int least, int most) {
        CapLeague x = new CapLeague();
        for (int n : new int[] {least, least + 1, most - 1, most}) {
            Due.is(ahead + n, Due.laws(x, 0, ahead + n + behind), 1);
            Due.is(ahead + n + " is told", x.law(0, what), n);
        }
        if (least > 0) {
            fault(ahead + (least - 1) + behind, 2, ahead.length());
        }
        fault(ahead + (most + 1) + behind, 2, ahead.length());
        fault(ahead + "99999" + behind, 2, ahead.length());
    }

    private static void placeIsTheTokensFirstByte() {
        Due.says("Terms I: PLACE (a TOKEN's first byte)");
        fault("  \n word 5;", 1, 4);
        fault("cap  \n 0;", 2, 7);
        fault("cap 5; \n cap 5;", 3, 9);
        fault("cap  \n tax;", 1, 7);
        fault("cap 5  \n 55;", 1, 9);
        fault("cap  \n 123456;", 1, 7);
    }

    private static void placeAtTheEndIsTheLength() {
        Due.says("Terms I: PLACE (the text's length at its end)");
        String[] open = {"cap", "cap 5", "match", "match 5", "match 5 5", "lots", "lots 5", "lots 1 1 1 1 1 1"};
        for (String text : open) {
            fault(text, 1, text.length());
            fault(text + " ", 1, text.length() + 1);
            fault(text + "\n  \n", 1, text.length() + 4);
            fault("tax 5;" + text, 1, text.length() + 6);
        }
    }

    private static void firstFaultComeTo() {
        Due.says("Terms I: the first come to as TOKENS are read one by one");
        fault("cap 0 ?", 2, 4);
        fault("cap ? 0", 1, 4);
        fault("cap 0;cap 5;", 2, 4);
        fault("cap 5;cap 0;", 3, 6);
        fault("cap 5;cap ?", 3, 6);
        fault("match 301 ?", 2, 6);
        fault("match 5 5001 5;", 2, 8);
        fault("roster 16;years 6;", 2, 7);
        fault("lots 21 1 1 1 1 1 1;", 2, 5);
        fault("lots 1 1 1 1 1 21 1;", 2, 15);
        fault("lots 0;lots 1;", 2, 5);
    }

    private static void leastKindOfOneToken() {
        Due.says("Terms I: of one TOKEN the least KIND");
        fault("roster 100000;", 1, 7);
        fault("roster 000000;", 1, 7);
        fault("lots 1 1 1 1 1 1 0;", 1, 17);
        fault("lots 1 1 1 1 1 1 21;", 1, 17);
        fault("cap 5 0;", 1, 6);
        fault("cap 5 cap;", 1, 6);
        fault("cap 5;tax cap", 1, 10);
    }

    /** Each kind of token in each place where one may stand, but for those that go on. */
    private static void tokensThatDoNotGoOn() {
        Due.says("Terms I: 1 SYNTAX: a TOKEN with which no text goes on");
        String[] starts = {"", "tax 1;"};
        for (String start : starts) {
            notGoOn(start, "word", "5", ";", "?");
            notGoOn(start + "cap ", "word", "roster", "cap", ";", "?");
            notGoOn(start + "cap 5 ", "word", "roster", "cap", "5", "?");
            notGoOn(start + "match ", "word", "roster", "match", ";", "?");
            notGoOn(start + "match 5 ", "word", "roster", "match", ";", "?");
            notGoOn(start + "match 5 5 ", "word", "roster", "match", "5", "?");
            notGoOn(start + "lots ", "word", "roster", "lots", ";", "?");
            notGoOn(start + "lots 5 ", "word", "roster", "lots", "?");
            notGoOn(start + "lots 5 5 5 5 5 5 ", "word", "roster", "lots", "5", "?");
        }
    }

    private static void notGoOn(String ahead, String... tokens) {
        for (String token : tokens) {
            fault(ahead + token, 1, ahead.length());
            fault(ahead + token + " 5;", 1, ahead.length());
        }
    }

    private static void bytesThatAreNoTokens() {
        Due.says("Terms I: 1 SYNTAX: a byte that is none");
        for (int sign = 0; sign < 256; sign++) {
            boolean isToken = sign == 10 || sign == 32 || sign == 59 || sign >= 48 && sign <= 57
                    || sign >= 97 && sign <= 122;
            if (!isToken) {
                fault("cap 5;" + (char) sign, 1, 6);
                fault("cap 5" + (char) sign + ";", 1, 5);
                fault("lots 5 5" + (char) sign, 1, 8);
            }
        }
    }

    private static void toldTwice() {
        Due.says("Terms I: 3 TWICE: a line's first WORD that was told already");
        for (String line : LINES) {
            String word = line.substring(0, line.indexOf(' '));
            fault(line + line, 3, line.length());
            fault(line + word, 3, line.length());
            for (String other : LINES) {
                if (!other.equals(line)) {
                    fault(line + other + " " + line, 3, line.length() + other.length() + 1);
                }
            }
        }
        fine(String.join("", LINES), 8);
        CapLeague x = new CapLeague();
        Due.laws(x, 0, "cap 5;");
        Due.is("another text may tell it", Due.laws(x, 0, "cap 6;"), 1);
        Due.is("another year's too", Due.laws(x, 1, "cap 7;"), 1);
    }

    private static void faultOfTheLatestNotRange() {
        Due.says("Promise 5: Of the latest laws() that was not RANGE");
        CapLeague x = new CapLeague();
        Due.laws(x, 0, "tax 301;");
        Due.each("laws", x::laws, -2, OUT);
        faultIs(x, 2, 4);
        Due.laws(x, 10, "cap");
        faultIs(x, 2, 4);
        Due.laws(x, 0, "cap");
        faultIs(x, 1, 3);
        Due.laws(x, -1, "");
        faultIs(x, 1, 3);
        Due.laws(x, 9, "cap 5;");
        faultIs(x, 0, -1);
    }

    private static void faultAheadOfAny() {
        Due.says("Promise 5: 0 without (and ahead of any), 1: its PLACE (NONE)");
        CapLeague x = new CapLeague();
        faultIs(x, 0, -1);
        Due.laws(x, 10, "cap");
        faultIs(x, 0, -1);
        Due.table(x, "cap");
        faultIs(x, 0, -1);
    }

    private static void faultOfNothingElse() {
        Due.says("Promise 5: NONE for another what");
        CapLeague x = new CapLeague();
        Due.laws(x, 0, "tax 301;");
        Due.each("fault", x::fault, -1, Integer.MIN_VALUE, -1, 2, 3, Integer.MAX_VALUE);
    }

    private static void lawOfNothingElse() {
        Due.says("Promise 6: -9 when there is none such");
        CapLeague x = new CapLeague();
        Due.laws(x, 0, "lots 1 2 3;");
        Due.each("law of a year", year -> x.law(year, 0), -9, OUT);
        Due.each("law", what -> x.law(0, what), -9, Integer.MIN_VALUE, Integer.MIN_VALUE + 9, Integer.MIN_VALUE + 10,
                -1, 9, 13, 14, 15, 16, 20, Integer.MAX_VALUE);
        Due.is("the last lot", x.law(0, 12), 3);
        Due.is("of the last year", x.law(9, 12), 3);
        CapLeague y = inYear(3);
        Due.is("a year gone is one", y.law(0, 0), 1000);
    }

    private static CapLeague inYear(int clock) {
        CapLeague x = new CapLeague();
        for (int year = 0; year < clock; year++) {
            Due.endYear(x);
        }
        return x;
    }

    private static void fault(String text, int kind, int place) {
        CapLeague x = new CapLeague();
        Due.is("'" + text + "'", Due.laws(x, 0, text), -1);
        Due.is("'" + text + "' kind", x.fault(0), kind);
        Due.is("'" + text + "' place", x.fault(1), place);
    }

    private static void fine(String text, int lines) {
        CapLeague x = new CapLeague();
        Due.is("'" + text + "'", Due.laws(x, 0, text), lines);
        faultIs(x, 0, -1);
    }

    private static void faultIs(CapLeague x, int kind, int place) {
        Due.is("kind", x.fault(0), kind);
        Due.is("place", x.fault(1), place);
    }
}
