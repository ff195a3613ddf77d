import java.util.Random;

/**
 * Runs of any calls: none throws, the same calls give the same answers, and what the books say is what
 * follows from the laws, the contracts and the dead money that the face itself tells.
 */
public final class AnyCallsTest {
    private static final int RUNS = 400;
    private static final int CALLS = 512;

    public static void main(String[] args) {
        for (int run = 0; run < RUNS; run++) {
            run(run);
        }
        Due.done();
    }

    private static void run(int seed) {
        CapLeague x = new CapLeague();
        CapLeague same = new CapLeague();
        Random random = new Random(seed);
        Random sameRandom = new Random(seed);
        long answers = 0;
        long sameAnswers = 0;
        for (int call = 0; call < CALLS; call++) {
            boolean isWild = seed % 4 == 0;
            answers = answers * 31 + call(x, random, isWild);
            sameAnswers = sameAnswers * 31 + call(same, sameRandom, isWild);
            if (call % 64 == 63) {
                books(x, seed);
            }
        }
        Due.is("run " + seed + " again", sameAnswers, answers);
    }

    private static int any(Random random, boolean isWild, int most) {
        if (isWild && random.nextInt(4) == 0) {
            int[] odd = {Integer.MIN_VALUE, -1, most + 1, Integer.MAX_VALUE, random.nextInt()};
            return odd[random.nextInt(odd.length)];
        }
        return random.nextInt(most + 1);
    }

    private static long call(CapLeague x, Random r, boolean w) {
        int what = any(r, w, 12);
        switch (r.nextInt(34)) {
            case 0: return Due.laws(x, any(r, w, 9), text(r));
            case 1: return x.fault(any(r, w, 1));
            case 2: return x.law(any(r, w, 9), what);
            case 3: case 4: case 5: return x.player();
            case 6: return x.wrong(any(r, w, 60), any(r, w, 7), 1 + any(r, w, 4), any(r, w, 300), any(r, w, 80) - 40,
                    any(r, w, 100), r.nextInt(4) == 0);
            case 7: case 8: case 9: case 10: return x.sign(any(r, w, 30), any(r, w, 7), 1 + any(r, w, 3),
                    any(r, w, 300), any(r, w, 80) - 40, any(r, w, 100), r.nextInt(4) == 0);
            case 11: return x.choose(any(r, w, 30));
            case 12: return x.waive(any(r, w, 60));
            case 13: return x.hurt(any(r, w, 30), r.nextBoolean());
            case 14: return x.about(any(r, w, 30), what);
            case 15: return x.club(any(r, w, 7), any(r, w, 9), any(r, w, 3));
            case 16: return r.nextInt(5) == 0 ? x.trade() : 0;
            case 17: case 18: return x.give(any(r, w, 30), any(r, w, 7));
            case 19: return x.giveTurn(any(r, w, 7), any(r, w, 9), any(r, w, 7), any(r, w, 8));
            case 20: return x.check();
            case 21: return x.gain(any(r, w, 7));
            case 22: return x.deal();
            case 23: return x.worth(any(r, w, 7), any(r, w, 30), any(r, w, 9999));
            case 24: return x.worthTurn(any(r, w, 7), any(r, w, 7), any(r, w, 9), any(r, w, 9999));
            case 25: return x.ring();
            case 26: return x.ringed(what);
            case 27: return r.nextInt(3) == 0 ? x.table() : Due.table(x, "BADCFEHG");
            case 28: return x.chance(any(r, w, 7), any(r, w, 1), any(r, w, 1));
            case 29: return x.draw(any(r, w, 4), any(r, w, 2));
            case 30: return x.turn(any(r, w, 9), any(r, w, 7), any(r, w, 1));
            case 31: return x.owner(any(r, w, 7), any(r, w, 9), any(r, w, 1));
            case 32: return r.nextInt(3) == 0 ? x.next() : x.purse(any(r, w, 7));
            default: return w ? x.feed(r.nextInt(), r.nextInt(), r.nextInt(), r.nextInt(), r.nextInt())
                    + x.end(r.nextInt(600)) : x.count(any(r, w, 6));
        }
    }

    private static String text(Random r) {
        String[] lines = {"cap " + (200 + r.nextInt(600)) + ";", "roster " + r.nextInt(9) + ";", "spare 80;",
            "hurt " + r.nextInt(101) + ";", "tax " + r.nextInt(301) + ";", "match 110 " + r.nextInt(50) + ";",
            "lots 3 2 1;", "lots 2 1;", "years 3;", "?"};
        StringBuilder text = new StringBuilder();
        for (int i = r.nextInt(5); i > 0; i--) {
            text.append(lines[r.nextInt(lines.length)]).append(r.nextInt(3) == 0 ? "\n " : "");
        }
        return text.toString();
    }

    private static void books(CapLeague x, int seed) {
        int now = x.count(0);
        for (int c = 0; c < 8; c++) {
            for (int year = now; year < 10; year++) {
                int due = x.club(c, year, 1);
                int players = 0;
                for (int p = 0; p < x.count(1); p++) {
                    if (x.about(p, 0) == c && isBound(x, p, year)) {
                        due += counted(x, p, year);
                        players++;
                    }
                }
                Due.is("run " + seed + " counts " + c + " " + year, x.club(c, year, 0), due);
                Due.is("run " + seed + " players " + c + " " + year, x.club(c, year, 2), players);
            }
        }
        int paid = x.count(3);
        for (int c = 0; c < 8; c++) {
            paid -= x.purse(c);
        }
        Due.is("run " + seed + ": what is paid is had, or stays", paid, 0);
    }

    private static boolean isBound(CapLeague x, int p, int year) {
        return year < x.about(p, 1) || year == x.about(p, 1) && x.about(p, 2) == 0;
    }

    private static int counted(CapLeague x, int p, int year) {
        int pay = x.about(p, 10 + year);
        boolean isLess = year == x.count(0) && x.about(p, 4) == 1;
        return isLess ? pay - pay * x.law(year, 6) / 100 : pay;
    }
}
