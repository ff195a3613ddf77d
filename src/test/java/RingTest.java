import java.util.Random;

/** Promises 23 and 24: the best ring, also against a search through trade(), give(), check() and gain(). */
public final class RingTest {
    private static int best;
    private static int[] bestRow;

    public static void main(String[] args) {
        noRing();
        twoClubs();
        threeClubs();
        fewestClubs();
        leastClubsThenPlayers();
        theLatestThatToldASum();
        illegalRings();
        rostersToldLower();
        sixtyPlayers();
        Random random = new Random(7);
        for (int i = 0; i < 150; i++) {
            againstAllTrades(random);
        }
        Due.done();
    }

    /** Worths: rows of club, player, worth. */
    private static CapLeague league(int players, int[]... worths) {
        CapLeague x = Due.withPlayers(players);
        for (int p = 0; p < players; p++) {
            x.sign(p, p % 8, 1, 10, 0, 0, false);
        }
        for (int[] row : worths) {
            x.worth(row[0], row[1], row[2]);
        }
        return x;
    }

    private static void ringed(CapLeague x, int sum, int... row) {
        Due.is("ring", x.ring(), sum);
        remembered(x, row);
    }

    /** Row: the clubs, then their players. */
    private static void remembered(CapLeague x, int... row) {
        int clubs = row.length / 2;
        Due.is("clubs", x.ringed(0), clubs == 0 ? -1 : clubs);
        for (int i = 0; i < 3; i++) {
            Due.is("club " + i, x.ringed(1 + i), i < clubs ? row[i] : -1);
            Due.is("player " + i, x.ringed(4 + i), i < clubs ? row[clubs + i] : -1);
        }
        Due.is("-1", x.ringed(-1), -1);
        Due.is("7", x.ringed(7), -1);
        Due.is("most", x.ringed(Integer.MAX_VALUE), -1);
        Due.is("least", x.ringed(Integer.MIN_VALUE), -1);
    }

    private static void noRing() {
        ringed(new CapLeague(), -1);
        ringed(league(8), -1);
        ringed(league(8, new int[] {0, 1, 5}), -1);
        ringed(league(8, new int[] {0, 1, 5}, new int[] {1, 0, 5}, new int[] {1, 1, 5}), -1);
        CapLeague x = Due.withPlayers(2);
        x.worth(0, 1, 5);
        x.worth(1, 0, 5);
        x.sign(0, 0, 1, 1, 0, 0, false);
        ringed(x, -1);
        x.sign(1, 1, 1, 1, 0, 0, false);
        ringed(x, 10, 0, 1, 0, 1);
    }

    private static void twoClubs() {
        ringed(league(8, new int[] {2, 5, 9}, new int[] {5, 2, 4}, new int[] {5, 5, 3}), 10, 2, 5, 2, 5);
    }

    private static void threeClubs() {
        // 1 gives to 4, 4 gives to 3, 3 gives to 1
        int[][] worths = {{4, 1, 5}, {3, 4, 6}, {1, 3, 7}};
        ringed(league(8, worths), 18, 1, 4, 3, 1, 4, 3);
    }

    private static void fewestClubs() {
        int[][] worths = {{0, 1, 6}, {1, 0, 6}, {3, 2, 4}, {4, 3, 4}, {2, 4, 4}};
        ringed(league(8, worths), 12, 0, 1, 0, 1);
        int[][] more = {{0, 1, 6}, {1, 0, 6}, {3, 2, 4}, {4, 3, 5}, {2, 4, 4}};
        ringed(league(8, more), 13, 2, 3, 4, 2, 3, 4);
    }

    private static void leastClubsThenPlayers() {
        int[][] pairs = {{5, 6, 3}, {6, 5, 3}, {2, 7, 3}, {7, 2, 3}, {2, 6, 3}, {6, 2, 3}};
        ringed(league(8, pairs), 6, 2, 6, 2, 6);
        int[][] both = {{1, 0, 3}, {2, 1, 3}, {0, 2, 3}, {2, 0, 3}, {1, 2, 2}, {0, 1, 2}};
        ringed(league(8, both), 9, 0, 1, 2, 0, 1, 2);
        int[][] back = {{1, 0, 2}, {2, 1, 2}, {0, 2, 3}, {2, 0, 3}, {1, 2, 3}, {0, 1, 3}};
        ringed(league(8, back), 9, 0, 2, 1, 0, 2, 1);
        int[][] players = {{0, 1, 3}, {0, 9, 3}, {1, 0, 3}, {1, 8, 3}};
        ringed(league(16, players), 6, 0, 1, 0, 1);
        int[][] later = {{0, 1, 3}, {0, 9, 4}, {1, 0, 3}, {1, 8, 3}};
        ringed(league(16, later), 7, 0, 1, 0, 9);
    }

    private static void theLatestThatToldASum() {
        CapLeague x = league(8, new int[] {0, 1, 5}, new int[] {1, 0, 5});
        x.ring();
        x.waive(0);
        Due.is("none now", x.ring(), -1);
        remembered(x, 0, 1, 0, 1);
        x.worth(2, 3, 1);
        x.worth(3, 2, 1);
        ringed(x, 2, 2, 3, 2, 3);
    }

    private static void illegalRings() {
        CapLeague x = Due.withPlayers(4);
        x.sign(0, 0, 1, 90, 0, 0, false);
        x.sign(1, 1, 1, 60, 0, 0, false);
        x.sign(2, 2, 1, 100, 0, 0, false);
        x.sign(3, 0, 1, 20, 0, 0, false);
        x.worth(0, 2, 9);
        x.worth(2, 0, 9);
        x.worth(0, 1, 2);
        x.worth(1, 0, 2);
        Due.laws(x, 0, "cap 100;match 111 0;");
        ringed(x, 4, 0, 1, 0, 1);
        Due.laws(x, 0, "cap 100;match 112 0;");
        ringed(x, 18, 0, 2, 0, 2);
        Due.laws(x, 0, "cap 120;match 0 0;");
        ringed(x, 18, 0, 2, 0, 2);
    }

    private static void rostersToldLower() {
        CapLeague x = league(9, new int[] {0, 1, 5}, new int[] {1, 0, 5});
        Due.laws(x, 0, "roster 1;");
        Due.is("0 has one too many", x.ring(), -1);
        x.waive(8);
        Due.is("not any more", x.ring(), 10);
    }

    private static void sixtyPlayers() {
        CapLeague x = Due.withPlayers(60);
        for (int p = 0; p < 60; p++) {
            x.sign(p, p % 8, 1, 10, 0, 0, false);
            for (int c = 0; c < 8; c++) {
                x.worth(c, p, p % 8 == c ? 0 : worthToOthers(p));
            }
        }
        // To all other clubs a player is worth the same, so the dearest of three clubs go round.
        int first = x.ring();
        int[] row = {x.ringed(0), x.ringed(1), x.ringed(2), x.ringed(3), x.ringed(4), x.ringed(5), x.ringed(6)};
        int due = 0;
        for (int a = 0; a < 60; a++) {
            for (int b = 0; b < 60; b++) {
                for (int c = 0; c < 60; c++) {
                    if (a % 8 != b % 8 && b % 8 != c % 8 && a % 8 != c % 8) {
                        due = Math.max(due, worthToOthers(a) + worthToOthers(b) + worthToOthers(c));
                    }
                }
            }
        }
        Due.is("the dearest of three clubs", first, due);
        Due.is("three clubs", row[0], 3);
        for (int i = 0; i < 3; i++) {
            Due.is("its own player", row[4 + i] % 8, row[1 + i]);
        }
        Due.is("again", x.ring(), due);
    }

    /** The first and the last player in a row by clubs are the dearest, so that none may be left out. */
    private static int worthToOthers(int p) {
        return p == 0 || p == 55 ? 99 : 1 + p * 37 % 50;
    }

    private static void againstAllTrades(Random random) {
        int players = 2 + random.nextInt(15);
        CapLeague x = Due.withPlayers(players);
        Due.laws(x, 0, "cap " + (40 + random.nextInt(80)) + ";match " + (60 + random.nextInt(90)) + " "
                + random.nextInt(10) + ";spare 60;hurt 50;");
        int clubs = 2 + random.nextInt(7);
        int most = 1 + random.nextInt(6);
        for (int p = 0; p < players; p++) {
            x.sign(p, random.nextInt(clubs), 1, random.nextInt(50), 0, 0, false);
            x.hurt(p, random.nextInt(4) == 0);
            for (int c = 0; c < 8; c++) {
                x.worth(c, p, random.nextInt(most + 1));
            }
        }
        best = -1;
        bestRow = new int[0];
        for (int p = 0; p < players; p++) {
            for (int q = 0; q < players; q++) {
                tryRing(x, p, q);
                for (int r = 0; r < players; r++) {
                    tryRing(x, p, q, r);
                }
            }
        }
        x.trade();
        ringed(x, best, bestRow);
    }

    private static void tryRing(CapLeague x, int... given) {
        int n = given.length;
        int[] row = new int[2 * n];
        for (int i = 0; i < n; i++) {
            row[i] = x.about(given[i], 0);
            row[n + i] = given[i];
            if (row[i] < 0 || i > 0 && row[i] <= row[0] || i == 2 && row[1] == row[2]) {
                return;
            }
        }
        x.trade();
        for (int i = 0; i < n; i++) {
            x.give(given[i], row[(i + 1) % n]);
        }
        if (x.check() != 0) {
            return;
        }
        int sum = 0;
        for (int i = 0; i < n; i++) {
            if (x.gain(row[i]) <= 0) {
                return;
            }
            sum += x.gain(row[i]);
        }
        if (sum > best || sum == best && isAhead(row, bestRow)) {
            best = sum;
            bestRow = row;
        }
    }

    private static boolean isAhead(int[] row, int[] other) {
        if (row.length != other.length) {
            return row.length < other.length;
        }
        for (int i = 0; i < row.length; i++) {
            if (row[i] != other[i]) {
                return row[i] < other[i];
            }
        }
        return false;
    }
}
