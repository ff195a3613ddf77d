import java.math.BigInteger;
import java.util.ArrayList;
import java.util.Arrays;
import java.util.HashSet;
import java.util.List;
import java.util.Map;
import java.util.Set;
import java.util.TreeMap;
import java.util.regex.Matcher;
import java.util.regex.Pattern;

/**
 * The document said once more in another way, with no care for speed or room: each answer is worked out anew from
 * what was told. ModelTest asks it and the program the same.
 */
final class Model {
    private static final List<String> WORDS =
            List.of("cap", "roster", "years", "spare", "match", "hurt", "tax", "lots");
    private static final Map<String, int[]> BOUNDS = Map.of("cap", new int[] {1, 50000}, "roster", new int[] {1, 15},
            "years", new int[] {1, 5}, "spare", new int[] {0, 5000}, "match", new int[] {0, 300, 0, 5000},
            "hurt", new int[] {0, 100}, "tax", new int[] {0, 300}, "lots", new int[] {1, 20});
    private static final Map<String, int[]> UNTOLD = Map.of("cap", new int[] {1000}, "roster", new int[] {15},
            "years", new int[] {4}, "spare", new int[] {0}, "match", new int[] {100, 0}, "hurt", new int[] {0},
            "tax", new int[] {0}, "lots", new int[] {1});

    /** Pays by years; a choice that is not taken is kept apart. */
    private static final class Contract {
        int club;
        final TreeMap<Integer, Integer> pays = new TreeMap<>();
        int sure;
        boolean open;
    }

    private record Move(int player, int of, int year, int from, int to, int k) {
    }

    private record Ring(int sum, List<Integer> clubs, List<Integer> players) {
    }

    private final StringBuilder tape = new StringBuilder();
    private final TreeMap<Integer, Map<String, int[]>> texts = new TreeMap<>();
    private int faultKind = 0;
    private int faultPlace = -1;
    private int clock = 0;
    private final List<Contract> players = new ArrayList<>();
    private final Set<Integer> hurt = new HashSet<>();
    private final Map<String, Integer> dead = new TreeMap<>();
    private final Set<Integer> spareUsed = new HashSet<>();
    private final int[] purses = new int[8];
    private int leagues = 0;
    private List<Move> moves = new ArrayList<>();
    private final Map<String, Integer> worths = new TreeMap<>();
    private final Map<String, Move> turns = new TreeMap<>();
    private Ring best = new Ring(0, List.of(), List.of());
    private List<Integer> table = null;
    private final TreeMap<Integer, int[][]> drafts = new TreeMap<>();

    int feed(int a, int b, int c, int d, int e) {
        if (tape.length() > 480) {
            return -3;
        }
        for (int four : new int[] {a, b, c, d, e}) {
            tape.append((char) (four >>> 24)).append((char) (four >>> 16 & 255)).append((char) (four >>> 8 & 255))
                    .append((char) (four & 255));
        }
        return tape.length();
    }

    int end(int n) {
        if (n < 0 || n > tape.length()) {
            return -1;
        }
        tape.setLength(n);
        return n;
    }

    int laws(int year) {
        String text = tape.toString();
        tape.setLength(0);
        if (year < clock || year > 9) {
            return -2;
        }
        faultKind = 0;
        faultPlace = -1;
        Map<String, int[]> told = parse(text);
        if (faultKind != 0) {
            return -1;
        }
        texts.put(year, told);
        return told.size();
    }

    /** A text without the tape's detour. */
    int tell(int year, String text) {
        tape.setLength(0);
        tape.append(text);
        return laws(year);
    }

    /** The tokens, each with its place; the last is the end, an empty one. */
    private static List<Map.Entry<Integer, String>> tokens(String text) {
        List<Map.Entry<Integer, String>> found = new ArrayList<>();
        Matcher token = Pattern.compile("(?s)[a-z]+|[0-9]+|[^ \n]").matcher(text);
        while (token.find()) {
            found.add(Map.entry(token.start(), token.group()));
        }
        found.add(Map.entry(text.length(), ""));
        return found;
    }

    private Map<String, int[]> parse(String text) {
        Map<String, int[]> told = new TreeMap<>();
        String word = null;
        List<Integer> numbers = new ArrayList<>();
        for (Map.Entry<Integer, String> token : tokens(text)) {
            int kind = faultOf(token.getValue(), word, numbers.size(), told.keySet());
            if (kind != 0) {
                faultKind = kind;
                faultPlace = token.getKey();
                return told;
            }
            if (token.getValue().equals(";")) {
                told.put(word, numbers.stream().mapToInt(n -> n).toArray());
                word = null;
                numbers.clear();
            } else if (word == null) {
                word = token.getValue();
            } else {
                numbers.add(Integer.parseInt(token.getValue()));
            }
        }
        return told;
    }

    private static int faultOf(String token, String word, int numbers, Set<String> told) {
        if (word == null) {
            boolean goesOn = token.isEmpty() || WORDS.contains(token);
            return !goesOn ? 1 : told.contains(token) ? 3 : 0;
        }
        int least = word.equals("match") ? 2 : 1;
        int most = word.equals("lots") ? 6 : least;
        if (token.equals(";")) {
            return numbers >= least ? 0 : 1;
        }
        if (!token.matches("[0-9]{1,5}") || numbers >= most) {
            return 1;
        }
        int[] bounds = BOUNDS.get(word);
        int at = word.equals("match") ? 2 * numbers : 0;
        int n = Integer.parseInt(token);
        return n < bounds[at] || n > bounds[at + 1] ? 2 : 0;
    }

    int fault(int what) {
        return what == 0 ? faultKind : what == 1 ? faultPlace : -1;
    }

    private int[] told(int year, String word) {
        Map.Entry<Integer, Map<String, int[]>> text = texts.floorEntry(year);
        return text == null ? UNTOLD.get(word) : text.getValue().getOrDefault(word, UNTOLD.get(word));
    }

    private int now(String word) {
        return told(clock, word)[0];
    }

    int law(int year, int what) {
        if (year < 0 || year > 9 || what < 0 || what > 15 || what == 9) {
            return -9;
        }
        int[] lots = told(year, "lots");
        if (what >= 8) {
            return what == 8 ? lots.length : what - 10 < lots.length ? lots[what - 10] : -9;
        }
        return what == 5 ? told(year, "match")[1] : told(year, WORDS.get(what < 5 ? what : what - 1))[0];
    }

    int player() {
        if (players.size() == 60) {
            return -3;
        }
        players.add(null);
        return players.size() - 1;
    }

    private boolean isPlayer(int p) {
        return p >= 0 && p < players.size();
    }

    private static boolean isClub(int c) {
        return c >= 0 && c <= 7;
    }

    int wrong(int p, int club, int years, int pay, int rise, int sure, boolean choice) {
        if (!isPlayer(p) || !isClub(club) || years < 1 || years > 5 || pay < 0 || pay > 20000 || rise < -500
                || rise > 500 || sure < 0 || sure > 100 || choice && years == 1) {
            return -2;
        }
        int bits = players.get(p) != null ? 1 : 0;
        bits += club(club, clock, 2) >= now("roster") ? 2 : 0;
        bits += years > now("years") ? 4 : 0;
        boolean isAbove = club(club, clock, 0) + pay > now("cap");
        bits += isAbove && (pay > now("spare") || spareUsed.contains(club)) ? 8 : 0;
        return bits;
    }

    int sign(int p, int club, int years, int pay, int rise, int sure, boolean choice) {
        int wrong = wrong(p, club, years, pay, rise, sure, choice);
        if (wrong != 0) {
            return wrong == -2 ? -2 : 0;
        }
        if (club(club, clock, 0) + pay > now("cap")) {
            spareUsed.add(club);
        }
        Contract made = new Contract();
        made.club = club;
        made.sure = sure;
        made.open = choice;
        for (int i = 0; i < years; i++) {
            made.pays.put(clock + i, Math.max(0, pay + i * rise));
        }
        players.set(p, made);
        moves = new ArrayList<>();
        return 1;
    }

    int choose(int p) {
        if (!isPlayer(p)) {
            return -2;
        }
        Contract of = players.get(p);
        if (of == null || !of.open || of.pays.lastKey() != clock + 1) {
            return -4;
        }
        of.open = false;
        return 1;
    }

    /** The pay of a year in which the contract holds: -1 for others. */
    private static int bound(Contract of, int year) {
        boolean isOpen = of.open && of.pays.lastKey() == year;
        return isOpen ? -1 : of.pays.getOrDefault(year, -1);
    }

    int waive(int p) {
        if (!isPlayer(p)) {
            return -2;
        }
        Contract of = players.get(p);
        if (of == null) {
            return -4;
        }
        int sum = 0;
        for (int year = clock; year <= 9; year++) {
            int part = Math.max(0, bound(of, year)) * of.sure / 100;
            dead.merge(of.club + " " + year, part, Integer::sum);
            sum += part;
        }
        players.set(p, null);
        moves = new ArrayList<>();
        return sum;
    }

    int hurt(int p, boolean is) {
        if (!isPlayer(p)) {
            return -2;
        }
        return (is ? hurt.add(p) : hurt.remove(p)) ? 1 : 0;
    }

    int about(int p, int what) {
        if (!isPlayer(p) || what < 0 || what > 19 || what > 4 && what < 10) {
            return -9;
        }
        Contract of = players.get(p);
        if (what == 4) {
            return hurt.contains(p) ? 1 : 0;
        }
        if (of == null) {
            return what <= 1 ? -1 : 0;
        }
        int[] facts = {of.club, of.pays.lastKey(), of.open ? 1 : 0, of.sure};
        return what < 4 ? facts[what] : of.pays.getOrDefault(what - 10, 0);
    }

    /** What a player counts for the club in the clock's year, or in a later one. */
    private int counted(int p, int year) {
        int pay = Math.max(0, bound(players.get(p), year));
        return hurt.contains(p) && year == clock ? pay - pay * now("hurt") / 100 : pay;
    }

    int club(int c, int year, int what) {
        if (!isClub(c) || year < clock || year > 9 || what < 0 || what > 3) {
            return -2;
        }
        int deadMoney = dead.getOrDefault(c + " " + year, 0);
        int counts = deadMoney;
        int bound = 0;
        for (int p = 0; p < players.size(); p++) {
            if (players.get(p) != null && players.get(p).club == c) {
                counts += counted(p, year);
                bound += bound(players.get(p), year) >= 0 ? 1 : 0;
            }
        }
        return new int[] {counts, deadMoney, bound, year == clock && spareUsed.contains(c) ? 1 : 0}[what];
    }

    int trade() {
        moves = new ArrayList<>();
        return 1;
    }

    private int move(Move move) {
        Set<Integer> clubs = new HashSet<>(List.of(move.from, move.to));
        for (Move other : moves) {
            clubs.add(other.from);
            clubs.add(other.to);
            if (other.player == move.player && other.of == move.of && other.year == move.year) {
                return -4;
            }
        }
        if (clubs.size() > 4) {
            return -4;
        }
        if (moves.size() == 12) {
            return -3;
        }
        moves.add(move);
        return moves.size();
    }

    int give(int p, int club) {
        if (!isPlayer(p) || !isClub(club)) {
            return -2;
        }
        Contract of = players.get(p);
        return of == null || of.club == club ? -4 : move(new Move(p, -1, -1, of.club, club, 0));
    }

    int giveTurn(int of, int year, int club, int k) {
        if (!isClub(of) || year < clock || year > 9 || !isClub(club) || k < 0 || k > 8) {
            return -2;
        }
        int from = owner(of, year, 0);
        if (from == club || drafts.containsKey(year) || owner(of, year, 1) > 0) {
            return -4;
        }
        return move(new Move(-1, of, year, from, club, k));
    }

    int check() {
        return moves.isEmpty() ? -4 : check(moves);
    }

    private int check(List<Move> all) {
        for (int c = 0; c < 8; c++) {
            int behind = club(c, clock, 2);
            int counts = club(c, clock, 0);
            int payIn = 0;
            int payOut = 0;
            boolean isIn = false;
            for (Move move : all) {
                isIn |= move.from == c || move.to == c;
                if (move.player >= 0 && move.to == c) {
                    behind++;
                    counts += counted(move.player, clock);
                    payIn += about(move.player, 10 + clock);
                } else if (move.player >= 0 && move.from == c) {
                    behind--;
                    counts -= counted(move.player, clock);
                    payOut += about(move.player, 10 + clock);
                }
            }
            if (isIn && behind > now("roster")) {
                return 100 * c + 1;
            }
            int[] match = told(clock, "match");
            if (isIn && counts > now("cap") && payIn > payOut * match[0] / 100 + match[1]) {
                return 100 * c + 2;
            }
        }
        return 0;
    }

    int gain(int c) {
        return isClub(c) ? gain(c, moves) : -2000000000;
    }

    private int gain(int c, List<Move> all) {
        int sum = 0;
        for (Move move : all) {
            int worth = worths.getOrDefault(c + " " + move.player + " " + move.of + " " + move.year, 0);
            sum += move.to == c ? worth : move.from == c ? -worth : 0;
        }
        return sum;
    }

    int deal() {
        int wrong = check();
        if (wrong != 0) {
            return wrong == -4 ? -4 : 0;
        }
        for (Move move : moves) {
            if (move.player >= 0) {
                players.get(move.player).club = move.to;
            } else {
                turns.put(move.of + " " + move.year, move);
            }
        }
        int done = moves.size();
        moves = new ArrayList<>();
        return done;
    }

    int worth(int c, int p, int n) {
        return isClub(c) && isPlayer(p) && n >= 0 && n <= 9999 ? worthWas(c + " " + p + " -1 -1", n) : -2;
    }

    int worthTurn(int c, int of, int year, int n) {
        boolean isAny = isClub(c) && isClub(of) && year >= 0 && year <= 9 && n >= 0 && n <= 9999;
        return isAny ? worthWas(c + " -1 " + of + " " + year, n) : -2;
    }

    private int worthWas(String of, int n) {
        Integer before = worths.put(of, n);
        return before == null ? 0 : before;
    }

    int ring() {
        Ring found = null;
        for (int p = 0; p < players.size(); p++) {
            for (int q = 0; q < players.size(); q++) {
                found = better(found, p, q);
                for (int r = 0; r < players.size() && clubOf(p) >= 0 && clubOf(q) >= 0; r++) {
                    found = better(found, p, q, r);
                }
            }
        }
        best = found == null ? best : found;
        return found == null ? -1 : found.sum;
    }

    private int clubOf(int p) {
        return about(p, 0);
    }

    private Ring better(Ring than, int... given) {
        List<Integer> clubs = new ArrayList<>();
        List<Integer> row = new ArrayList<>();
        for (int p : given) {
            if (clubOf(p) < 0 || clubs.contains(clubOf(p)) || !clubs.isEmpty() && clubOf(p) < clubs.get(0)) {
                return than;
            }
            clubs.add(clubOf(p));
            row.add(p);
        }
        List<Move> all = new ArrayList<>();
        for (int i = 0; i < given.length; i++) {
            all.add(new Move(given[i], -1, -1, clubs.get(i), clubs.get((i + 1) % given.length), 0));
        }
        int sum = 0;
        for (int c : clubs) {
            if (gain(c, all) <= 0) {
                return than;
            }
            sum += gain(c, all);
        }
        Ring ring = new Ring(sum, clubs, row);
        return isAhead(ring, than) && check(all) == 0 ? ring : than;
    }

    private static boolean isAhead(Ring ring, Ring other) {
        if (other == null || ring.sum != other.sum) {
            return other == null || ring.sum > other.sum;
        }
        if (ring.clubs.size() != other.clubs.size()) {
            return ring.clubs.size() < other.clubs.size();
        }
        int byClubs = Arrays.compare(ring.clubs.toArray(new Integer[0]), other.clubs.toArray(new Integer[0]));
        int byPlayers = Arrays.compare(ring.players.toArray(new Integer[0]), other.players.toArray(new Integer[0]));
        return byClubs != 0 ? byClubs < 0 : byPlayers < 0;
    }

    int ringed(int what) {
        int n = best.clubs.size();
        if (n == 0 || what < 0 || what > 6) {
            return -1;
        }
        int i = (what - 1) % 3;
        return what == 0 ? n : i >= n ? -1 : what < 4 ? best.clubs.get(i) : best.players.get(i);
    }

    int table() {
        String text = tape.toString();
        tape.setLength(0);
        char[] sorted = text.toCharArray();
        Arrays.sort(sorted);
        if (!new String(sorted).equals("ABCDEFGH")) {
            return -1;
        }
        if (drafts.containsKey(clock)) {
            return -4;
        }
        table = text.chars().map(sign -> sign - 65).boxed().toList();
        return 1;
    }

    /** The clubs by weights, each as often as it weighs; none without lots. */
    private List<Integer> urn() {
        List<Integer> urn = new ArrayList<>();
        int[] lots = told(clock, "lots");
        for (int i = 0; lots.length > 1 && i < lots.length; i++) {
            for (int n = 0; n < lots[i]; n++) {
                urn.add(i);
            }
        }
        return urn;
    }

    private static List<Integer> without(List<Integer> urn, int one) {
        return urn.stream().filter(i -> i != one).toList();
    }

    long chance(int c, int k, int what) {
        if (!isClub(c) || k < 0 || k > 1 || what < 0 || what > 1) {
            return -2;
        }
        if (table == null) {
            return -4;
        }
        int place = table.indexOf(c);
        List<Integer> urn = urn();
        BigInteger above = BigInteger.ZERO;
        BigInteger below = BigInteger.ONE;
        if (urn.isEmpty()) {
            above = BigInteger.valueOf(place == k ? 1 : 0);
        }
        for (int first : urn) {
            List<Integer> left = k == 0 ? List.of(first) : without(urn, first);
            long hits = left.stream().filter(i -> i == place).count();
            BigInteger all = BigInteger.valueOf((long) urn.size() * left.size());
            above = above.multiply(all).add(below.multiply(BigInteger.valueOf(hits)));
            below = below.multiply(all);
            BigInteger divisor = above.gcd(below);
            above = above.divide(divisor);
            below = below.divide(divisor);
        }
        return (what == 0 ? above : below).longValueExact();
    }

    int draw(int first, int second) {
        List<Integer> urn = urn();
        List<Integer> order = new ArrayList<>();
        if (urn.isEmpty() && (first != 0 || second != 0) || first < 0 || second < 0) {
            return -2;
        }
        if (!urn.isEmpty()) {
            if (first >= urn.size() || second >= without(urn, urn.get(first)).size()) {
                return -2;
            }
            order.add(urn.get(first));
            order.add(without(urn, urn.get(first)).get(second));
        }
        if (table == null || drafts.containsKey(clock)) {
            return -4;
        }
        for (int i = 0; i < 8; i++) {
            if (!order.contains(i)) {
                order.add(i);
            }
        }
        int[][] draft = new int[2][8];
        for (int i = 0; i < 8; i++) {
            int of = table.get(order.get(i));
            Move given = turns.get(of + " " + clock);
            if (given != null && i < given.k) {
                turns.put(of + " " + clock, new Move(-1, of, clock, given.to, given.from, 0));
            }
            draft[0][i] = of;
            draft[1][i] = owner(of, clock, 0);
        }
        drafts.put(clock, draft);
        moves = new ArrayList<>();
        return 1;
    }

    int turn(int year, int i, int what) {
        boolean isAny = drafts.containsKey(year) && i >= 0 && i <= 7 && what >= 0 && what <= 1;
        return isAny ? drafts.get(year)[what][i] : -1;
    }

    int owner(int of, int year, int what) {
        if (!isClub(of) || year < 0 || year > 9 || what < 0 || what > 1) {
            return -2;
        }
        Move given = turns.get(of + " " + year);
        return given == null ? what == 0 ? of : 0 : what == 0 ? given.to : given.k;
    }

    int next() {
        if (clock == 9 || !drafts.containsKey(clock)) {
            return -4;
        }
        List<Integer> others = new ArrayList<>();
        int sum = 0;
        for (int c = 0; c < 8; c++) {
            int above = club(c, clock, 0) - now("cap");
            if (above > 0) {
                purses[c] += above * now("tax") / 100;
                sum += above * now("tax") / 100;
            } else {
                others.add(c);
            }
        }
        int share = others.isEmpty() ? 0 : sum / others.size();
        for (int c : others) {
            purses[c] -= share;
        }
        leagues += sum - share * others.size();
        clock++;
        players.replaceAll(of -> of == null || bound(of, clock) < 0 ? null : of);
        hurt.clear();
        spareUsed.clear();
        table = null;
        moves = new ArrayList<>();
        return clock;
    }

    int purse(int c) {
        return isClub(c) ? purses[c] : -2000000000;
    }

    int count(int what) {
        int[] counts = {clock, players.size(), moves.size(), leagues, tape.length(), table == null ? 0 : 1,
            drafts.containsKey(clock) ? 1 : 0};
        return what >= 0 && what <= 6 ? counts[what] : -1;
    }
}
