import java.util.Random;

/** Promises 23 and 24: the best ring, also against the model's search through all. */
public final class RingTest {
    public static void main(String[] args) {
        noRing();
        twoClubs();
        threeClubs();
        fewestClubs();
        leastClubsThenPlayers();
        theLatestThatToldASum();
        illegalRings();
        rostersToldLower();
        sixtyPlayers();
        Random random = new Random(7);
        for (int i = 0; i < 300; i++) {
            againstTheModel(random);
        }
        Due.done();
    }

    /** Worths: rows of club, player, worth. */
    private static CapLeague league(int players, int[]... worths) {
        CapLeague x = Due.withPlayers(players);
        for (int p = 0; p < players; p++) {
            x.sign(p, p % 8, 1, 10, 0, 0, false);
        }
        for (int[] row : worths) {
            x.worth(row[0], row[1], row[2]);
        }
        return x;
    }

    private static void ringed(CapLeague x, int sum, int... row) {
        Due.is("ring", x.ring(), sum);
        remembered(x, row);
    }

    /** Row: the clubs, then their players. */
    private static void remembered(CapLeague x, int... row) {
        int clubs = row.length / 2;
        Due.is("clubs", x.ringed(0), clubs == 0 ? -1 : clubs);
        for (int i = 0; i < 3; i++) {
            Due.is("club " + i, x.ringed(1 + i), i < clubs ? row[i] : -1);
            Due.is("player " + i, x.ringed(4 + i), i < clubs ? row[clubs + i] : -1);
        }
        Due.is("-1", x.ringed(-1), -1);
        Due.is("7", x.ringed(7), -1);
        Due.is("most", x.ringed(Integer.MAX_VALUE), -1);
        Due.is("least", x.ringed(Integer.MIN_VALUE), -1);
    }

    private static void noRing() {
        ringed(new CapLeague(), -1);
        ringed(league(8), -1);
        ringed(league(8, new int[] {0, 1, 5}), -1);
        ringed(league(8, new int[] {0, 1, 5}, new int[] {1, 0, 5}, new int[] {1, 1, 5}), -1);
        CapLeague x = Due.withPlayers(2);
        x.worth(0, 1, 5);
        x.worth(1, 0, 5);
        x.sign(0, 0, 1, 1, 0, 0, false);
        ringed(x, -1);
        x.sign(1, 1, 1, 1, 0, 0, false);
        ringed(x, 10, 0, 1, 0, 1);
    }

    private static void twoClubs() {
        ringed(league(8, new int[] {2, 5, 9}, new int[] {5, 2, 4}, new int[] {5, 5, 3}), 10, 2, 5, 2, 5);
    }

    private static void threeClubs() {
        // 1 gives to 4, 4 gives to 3, 3 gives to 1
        int[][] worths = {{4, 1, 5}, {3, 4, 6}, {1, 3, 7}};
        ringed(league(8, worths), 18, 1, 4, 3, 1, 4, 3);
    }

    private static void fewestClubs() {
        int[][] worths = {{0, 1, 6}, {1, 0, 6}, {3, 2, 4}, {4, 3, 4}, {2, 4, 4}};
        ringed(league(8, worths), 12, 0, 1, 0, 1);
        int[][] more = {{0, 1, 6}, {1, 0, 6}, {3, 2, 4}, {4, 3, 5}, {2, 4, 4}};
        ringed(league(8, more), 13, 2, 3, 4, 2, 3, 4);
    }

    private static void leastClubsThenPlayers() {
        int[][] pairs = {{5, 6, 3}, {6, 5, 3}, {2, 7, 3}, {7, 2, 3}, {2, 6, 3}, {6, 2, 3}};
        ringed(league(8, pairs), 6, 2, 6, 2, 6);
        int[][] both = {{1, 0, 3}, {2, 1, 3}, {0, 2, 3}, {2, 0, 3}, {1, 2, 2}, {0, 1, 2}};
        ringed(league(8, both), 9, 0, 1, 2, 0, 1, 2);
        int[][] back = {{1, 0, 2}, {2, 1, 2}, {0, 2, 3}, {2, 0, 3}, {1, 2, 3}, {0, 1, 3}};
        ringed(league(8, back), 9, 0, 2, 1, 0, 2, 1);
        int[][] players = {{0, 1, 3}, {0, 9, 3}, {1, 0, 3}, {1, 8, 3}};
        ringed(league(16, players), 6, 0, 1, 0, 1);
        int[][] later = {{0, 1, 3}, {0, 9, 4}, {1, 0, 3}, {1, 8, 3}};
        ringed(league(16, later), 7, 0, 1, 0, 9);
    }

    private static void theLatestThatToldASum() {
        CapLeague x = league(8, new int[] {0, 1, 5}, new int[] {1, 0, 5});
        x.ring();
        x.waive(0);
        Due.is("none now", x.ring(), -1);
        remembered(x, 0, 1, 0, 1);
        x.worth(2, 3, 1);
        x.worth(3, 2, 1);
        ringed(x, 2, 2, 3, 2, 3);
    }

    private static void illegalRings() {
        CapLeague x = Due.withPlayers(4);
        x.sign(0, 0, 1, 90, 0, 0, false);
        x.sign(1, 1, 1, 60, 0, 0, false);
        x.sign(2, 2, 1, 100, 0, 0, false);
        x.sign(3, 0, 1, 20, 0, 0, false);
        x.worth(0, 2, 9);
        x.worth(2, 0, 9);
        x.worth(0, 1, 2);
        x.worth(1, 0, 2);
        Due.laws(x, 0, "cap 100;match 111 0;");
        ringed(x, 4, 0, 1, 0, 1);
        Due.laws(x, 0, "cap 100;match 112 0;");
        ringed(x, 18, 0, 2, 0, 2);
        Due.laws(x, 0, "cap 120;match 0 0;");
        ringed(x, 18, 0, 2, 0, 2);
    }

    private static void rostersToldLower() {
        CapLeague x = league(9, new int[] {0, 1, 5}, new int[] {1, 0, 5});
        Due.laws(x, 0, "roster 1;");
        Due.is("0 has one too many", x.ring(), -1);
        x.waive(8);
        Due.is("not any more", x.ring(), 10);
    }

    /** To all other clubs a player is worth the same, so the dearest of three clubs go round; 3 and 4 take no part. */
    private static void sixtyPlayers() {
        CapLeague x = Due.withPlayers(60);
        for (int p = 0; p < 60; p++) {
            x.sign(p, p % 8, 1, 10, 0, 0, false);
            for (int c = 0; c < 8; c++) {
                if (c != p % 8 && takesPart(c)) {
                    x.worth(c, p, worthToOthers(p));
                }
            }
        }
        int first = x.ring();
        int[] row = {x.ringed(0), x.ringed(1), x.ringed(2), x.ringed(3), x.ringed(4), x.ringed(5), x.ringed(6)};
        int due = 0;
        for (int a = 0; a < 60; a++) {
            for (int b = 0; b < 60; b++) {
                for (int c = 0; c < 60; c++) {
                    boolean isRing = a % 8 != b % 8 && b % 8 != c % 8 && a % 8 != c % 8
                            && takesPart(a % 8) && takesPart(b % 8) && takesPart(c % 8);
                    due = Math.max(due, isRing ? worthToOthers(a) + worthToOthers(b) + worthToOthers(c) : 0);
                }
            }
        }
        Due.is("the dearest of three clubs", first, due);
        Due.is("three clubs", row[0], 3);
        for (int i = 0; i < 3; i++) {
            Due.is("its own player", row[4 + i] % 8, row[1 + i]);
        }
        Due.is("again", x.ring(), due);
    }

    private static boolean takesPart(int c) {
        return c != 3 && c != 4;
    }

    /** The first and the last player in a row by clubs are the dearest, so that none may be left out. */
    private static int worthToOthers(int p) {
        return p == 0 || p == 55 ? 99 : 1 + p * 37 % 50;
    }

    /** Many rings are even: worths are small. */
    private static void againstTheModel(Random random) {
        int players = 2 + random.nextInt(15);
        CapLeague x = Due.withPlayers(players);
        Model model = new Model();
        String laws = "cap " + (40 + random.nextInt(80)) + ";match " + (60 + random.nextInt(90)) + " "
                + random.nextInt(10) + ";spare 60;hurt 50;roster " + (1 + random.nextInt(9)) + ";";
        Due.laws(x, 0, laws);
        model.tell(0, laws);
        int clubs = 2 + random.nextInt(7);
        int most = 1 + random.nextInt(6);
        for (int p = 0; p < players; p++) {
            int club = random.nextInt(clubs);
            int pay = random.nextInt(50);
            boolean isHurt = random.nextInt(4) == 0;
            x.sign(p, club, 1, pay, 0, 0, false);
            x.hurt(p, isHurt);
            model.player();
            model.sign(p, club, 1, pay, 0, 0, false);
            model.hurt(p, isHurt);
            for (int c = 0; c < 8; c++) {
                int worth = random.nextInt(most + 1);
                x.worth(c, p, worth);
                model.worth(c, p, worth);
            }
        }
        Due.is("ring", x.ring(), model.ring());
        for (int what = 0; what < 7; what++) {
            Due.is("ringed " + what, x.ringed(what), model.ringed(what));
        }
    }
}
