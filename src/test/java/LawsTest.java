/** Promises 1 to 6: a new object, the tape, laws and their faults. */
public final class LawsTest {
    public static void main(String[] args) {
        newObject();
        feedFillsTheTape();
        endCutsTheTape();
        bytesComeHighestFirst();
        untoldLaws();
        lawsGoOnFromTheirYear();
        lawsToldAnewAreTheseAlone();
        boundsOfEachNumber();
        faults();
        faultStays();
        tapeIsEmptyThen();
        lawsOfYears();
        Due.done();
    }

    private static void newObject() {
        CapLeague x = new CapLeague();
        Due.is("new: year", x.count(0), 0);
        Due.is("new: players", x.count(1), 0);
        Due.is("new: moves", x.count(2), 0);
        Due.is("new: league", x.count(3), 0);
        Due.is("new: tape", x.count(4), 0);
        Due.is("new: table", x.count(5), 0);
        Due.is("new: drawn", x.count(6), 0);
        Due.is("new: fault 0", x.fault(0), 0);
        Due.is("new: fault 1", x.fault(1), -1);
        Due.is("new: cap", x.law(0, 0), 1000);
        Due.is("new: ringed", x.ringed(0), -1);
    }

    private static void feedFillsTheTape() {
        CapLeague x = new CapLeague();
        for (int i = 1; i <= 25; i++) {
            Due.is("feed " + i, x.feed(0, -1, 5, 7, Integer.MIN_VALUE), 20 * i);
        }
        Due.is("feed full", x.feed(0, 0, 0, 0, 0), -3);
        Due.is("full tape", x.count(4), 500);
        Due.is("end 481", x.end(481), 481);
        Due.is("feed over", x.feed(0, 0, 0, 0, 0), -3);
        Due.is("end 480", x.end(480), 480);
        Due.is("feed fits", x.feed(0, 0, 0, 0, 0), 500);
    }

    private static void endCutsTheTape() {
        CapLeague x = new CapLeague();
        Due.is("end 0", x.end(0), 0);
        Due.is("end 1", x.end(1), -1);
        x.feed(1, 2, 3, 4, 5);
        Due.is("end -1", x.end(-1), -1);
        Due.is("end least", x.end(Integer.MIN_VALUE), -1);
        Due.is("end 21", x.end(21), -1);
        Due.is("tape stays", x.count(4), 20);
        Due.is("end 20", x.end(20), 20);
        Due.is("end 7", x.end(7), 7);
        Due.is("end 8", x.end(8), -1);
        Due.is("tape 7", x.count(4), 7);
    }

    private static void bytesComeHighestFirst() {
        CapLeague x = new CapLeague();
        x.feed(0x63617020, 0x3432203b, 0, 0, 0);
        x.end(8);
        Due.is("cap 42 ;", x.laws(0), 1);
        Due.is("cap 42", x.law(0, 0), 42);
        Due.is("the tape is empty", x.count(4), 0);
        x.feed(0xff202020, 0, 0, 0, 0);
        x.end(4);
        Due.is("a byte of 255", x.laws(0), -1);
        Due.is("kind", x.fault(0), 1);
        Due.is("place", x.fault(1), 0);
        Due.is("the tape is empty with a fault too", x.count(4), 0);
    }

    private static void untoldLaws() {
        CapLeague x = new CapLeague();
        long[] due = {1000, 15, 4, 0, 100, 0, 0, 0, 1, -9, 1, -9};
        for (int year = 0; year < 10; year++) {
            for (int what = 0; what < due.length; what++) {
                Due.is("law " + year + " " + what, x.law(year, what), due[what]);
            }
        }
        Due.is("law -1 0", x.law(-1, 0), -9);
        Due.is("law 10 0", x.law(10, 0), -9);
        Due.is("law 0 -1", x.law(0, -1), -9);
        Due.is("law 0 least", x.law(0, Integer.MIN_VALUE), -9);
        Due.is("law 0 most", x.law(0, Integer.MAX_VALUE), -9);
    }

    private static void lawsGoOnFromTheirYear() {
        CapLeague x = new CapLeague();
        Due.is("laws 3", Due.laws(x, 3, "cap 300;tax 20;"), 2);
        Due.is("laws 6", Due.laws(x, 6, "cap 600;"), 1);
        Due.is("cap 2", x.law(2, 0), 1000);
        Due.is("cap 3", x.law(3, 0), 300);
        Due.is("cap 5", x.law(5, 0), 300);
        Due.is("tax 5", x.law(5, 7), 20);
        Due.is("cap 6", x.law(6, 0), 600);
        Due.is("tax 6: not those of the year before", x.law(6, 7), 0);
        Due.is("cap 9", x.law(9, 0), 600);
    }

    private static void lawsToldAnewAreTheseAlone() {
        CapLeague x = new CapLeague();
        Due.laws(x, 0, "cap 5;roster 2;lots 4 5 6;");
        Due.is("anew", Due.laws(x, 0, "roster 3;"), 1);
        Due.is("cap", x.law(0, 0), 1000);
        Due.is("roster", x.law(0, 1), 3);
        Due.is("lots", x.law(0, 8), 1);
        Due.is("lot", x.law(0, 10), 1);
        Due.is("lot beyond", x.law(0, 11), -9);
        Due.is("a fault", Due.laws(x, 0, "roster 4;cap;"), -1);
        Due.is("roster stays", x.law(0, 1), 3);
        Due.is("empty", Due.laws(x, 0, "  \n"), 0);
        Due.is("roster untold", x.law(0, 1), 15);
        Due.laws(x, 1, "cap 7;");
        Due.is("an empty text of year 2", Due.laws(x, 2, ""), 0);
        Due.is("is a text", x.law(2, 0), 1000);
    }

    private static void boundsOfEachNumber() {
        String[] words = {"cap ", "roster ", "years ", "spare ", "match ", "match 5 ", "hurt ", "tax ", "lots "};
        String[] behind = {";", ";", ";", ";", " 0;", ";", ";", ";", ";"};
        int[] least = {1, 1, 1, 0, 0, 0, 0, 0, 1};
        int[] most = {50000, 15, 5, 5000, 300, 5000, 100, 300, 20};
        for (int what = 0; what < words.length; what++) {
            CapLeague x = new CapLeague();
            int asked = what == 8 ? 10 : what;
            Due.is(words[what] + most[what], Due.laws(x, 0, words[what] + most[what] + behind[what]), 1);
            Due.is("the most", x.law(0, asked), most[what]);
            Due.is(words[what] + least[what], Due.laws(x, 0, words[what] + least[what] + behind[what]), 1);
            Due.is("the least", x.law(0, asked), least[what]);
            fault(words[what] + (most[what] + 1) + behind[what], 2, words[what].length());
            if (least[what] > 0) {
                fault(words[what] + "0" + behind[what], 2, words[what].length());
            }
        }
    }

    private static void faults() {
        fault("cap", 1, 3);
        fault("cap  ", 1, 5);
        fault("cap 5", 1, 5);
        fault("cap 5 \n", 1, 7);
        fault("cap 5 6;", 1, 6);
        fault("cap ;", 1, 4);
        fault("cap cap", 1, 4);
        fault(";", 1, 0);
        fault("5;", 1, 0);
        fault("cap 5;;", 1, 6);
        fault("caps 5;", 1, 0);
        fault("map 5;", 1, 0);
        fault("capz 5;", 1, 0);
        fault("acap 5;", 1, 0);
        fault("ca p 5;", 1, 0);
        fault("Cap 5;", 1, 0);
        fault("cAp 5;", 1, 0);
        fault("cap\t5;", 1, 3);
        fault("cap 5,", 1, 5);
        fault("cap -5;", 1, 4);
        fault("cap 000001;", 1, 4);
        fault("cap 99999;", 2, 4);
        fault("cap 9999999999;", 1, 4);
        fault("cap 5;cap 6;", 3, 6);
        fault("cap 5; cap", 3, 7);
        fault("cap 0;cap 6;", 2, 4);
        fault("match 1;", 1, 7);
        fault("match 1 2 3;", 1, 10);
        fault("match 301 5001;", 2, 6);
        fault("match 300 5001;", 2, 10);
        fault("match 1 2;match 1 2;", 3, 10);
        fault("lots;", 1, 4);
        fault("lots 1 2 3 4 5 6 7;", 1, 17);
        fault("lots 1 2 3 4 5 6 99;", 1, 17);
        fault("lots 1 2 3 4 5 21;", 2, 15);
        fault("lots 1 2 3 4 5 6", 1, 16);
        fault("lots 1 2 cap 5;", 1, 9);
        fault("lots 1;lots 1;", 3, 7);
        fine("cap5;", 1);
        fine("cap00005;", 1);
        fine(" \n cap\n5 \n; ", 1);
        fine("lots 1 2 3 4 5 6;", 1);
        fine("lots1 20;", 1);
        fine("tax 1;hurt 2;match 3 4;spare 5;years 5;roster 7;cap 8;lots 9;", 8);
    }

    private static void fault(String text, int kind, int place) {
        CapLeague x = new CapLeague();
        Due.is("'" + text + "'", Due.laws(x, 0, text), -1);
        Due.is("'" + text + "' kind", x.fault(0), kind);
        Due.is("'" + text + "' place", x.fault(1), place);
        Due.is("no other", x.fault(2), -1);
        Due.is("no other below", x.fault(-1), -1);
        Due.is("cap as it was", x.law(0, 0), 1000);
    }

    private static void fine(String text, int lines) {
        CapLeague x = new CapLeague();
        Due.is("'" + text + "'", Due.laws(x, 0, text), lines);
        Due.is("'" + text + "' kind", x.fault(0), 0);
        Due.is("'" + text + "' place", x.fault(1), -1);
    }

    private static void faultStays() {
        CapLeague x = new CapLeague();
        Due.laws(x, 0, "cap 0;");
        Due.is("no such year", Due.laws(x, 10, "cap 5;"), -2);
        Due.is("kind stays", x.fault(0), 2);
        Due.is("place stays", x.fault(1), 4);
        Due.is("no law of it", x.law(9, 0), 1000);
        Due.is("an empty tape", x.laws(9), 0);
        Due.is("kind gone", x.fault(0), 0);
        Due.is("place gone", x.fault(1), -1);
    }

    private static void tapeIsEmptyThen() {
        CapLeague x = new CapLeague();
        emptiesTape(x, "lines", 0, "cap 5;", 1);
        emptiesTape(x, "a fault", 0, "cap;", -1);
        emptiesTape(x, "a year below 0", -1, "cap 6;", -2);
        emptiesTape(x, "a year above 9", 10, "cap 7;", -2);
        emptiesTape(x, "the least int", Integer.MIN_VALUE, "cap 8;", -2);
        emptiesTape(x, "the greatest int", Integer.MAX_VALUE, "cap 9;", -2);
        Due.endYear(x);
        emptiesTape(x, "a year gone", 0, "cap 10;", -2);
        Due.is("only the first was told", x.law(0, 0), 5);
        Due.is("in the last year too", x.law(9, 0), 5);
    }

    private static void emptiesTape(CapLeague x, String what, int year, String text, int due) {
        Due.is(what, Due.laws(x, year, text), due);
        Due.is(what + ": bytes", x.count(4), 0);
        Due.is(what + ": none to keep", x.end(1), -1);
        Due.is(what + ": fed anew", x.feed(0, 0, 0, 0, 0), 20);
    }

    private static void lawsOfYears() {
        CapLeague x = new CapLeague();
        Due.is("-1", x.laws(-1), -2);
        Due.is("10", x.laws(10), -2);
        Due.endYear(x);
        Due.is("a year gone", x.laws(0), -2);
        Due.is("the clock's", x.laws(1), 0);
        Due.is("the last", Due.laws(x, 9, "cap 9;"), 1);
        Due.is("of the last", x.law(9, 0), 9);
        Due.is("of the one ahead of it", x.law(8, 0), 1000);
        Due.is("of a year gone", x.law(0, 0), 1000);
    }
}
