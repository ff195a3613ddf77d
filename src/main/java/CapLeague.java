/**
 * The books of a league whose clubs are under one purse limit: laws, contracts, what counts
 * against each club, trades, the best ring of swaps, the draft and the fines of a year's end.
 */
public final class CapLeague {
    public static final int NONE = -1;
    public static final int RANGE = -2;
    public static final int FULL = -3;
    public static final int STATE = -4;

    private static final int NO_SUCH = -9;
    /** RANGE of those calls whose honest answers may be below 0. */
    private static final int NO_SUM = -2000000000;

    private static final int CLUBS = 8;
    private static final int YEARS = 10;
    private static final int MOST_PLAYERS = 60;
    private static final int MOST_CONTRACT_YEARS = 5;
    private static final int MOST_PAY = 20000;
    private static final int MOST_RISE = 500;
    private static final int MOST_WORTH = 9999;
    private static final int HUNDRED = 100;
    /** In about() and law(): from here on the number asked for is the place in a row. */
    private static final int ROW = 10;

    /** The numbers of laws, as law() names them; a line is known by its first number. */
    private static final int CAP = 0;
    private static final int ROSTER = 1;
    private static final int LENGTH = 2;
    private static final int SPARE = 3;
    private static final int MATCH = 4;
    private static final int MATCH_MORE = 5;
    private static final int HURT = 6;
    private static final int TAX = 7;
    private static final int LOTS = 8;
    private static final int MOST_LOTS = 6;
    private static final int[] UNTOLD = {1000, 15, 4, 0, 100, 0, 0, 0};
    private static final int[] LEAST = {1, 1, 1, 0, 0, 0, 0, 0, 1};
    private static final int[] MOST = {50000, 15, 5, 5000, 300, 5000, 100, 300, 20};

    private final Tape tape;
    private final LawBook lawBook;
    private final LawReader reader;
    private final Books books;
    private final Turns turns;
    private final Trade bargain;
    private final RingSearch rings;
    private final Draft draft;

    public CapLeague() {
        tape = new Tape();
        lawBook = new LawBook();
        reader = new LawReader(tape);
        books = new Books(lawBook);
        turns = new Turns();
        bargain = new Trade(books, turns);
        rings = new RingSearch(books);
        draft = new Draft();
    }

    public int feed(int a, int b, int c, int d, int e) {
        if (!tape.hasRoom()) {
            return FULL;
        }
        tape.append(a);
        tape.append(b);
        tape.append(c);
        tape.append(d);
        tape.append(e);
        return tape.size;
    }

    public int end(int n) {
        if (n < 0 || n > tape.size) {
            return NONE;
        }
        tape.size = n;
        return n;
    }

    // ---- laws

    public int laws(int year) {
        int answer = books.isNowOrLater(year) ? reader.readText() : RANGE;
        if (answer >= 0) {
            lawBook.tell(year, reader.read);
        }
        tape.size = 0;
        return answer;
    }

    public int fault(int what) {
        if (what == 0) {
            return reader.faultKind;
        }
        return what == 1 ? reader.faultPlace : NONE;
    }

    public int law(int year, int what) {
        return isYear(year) ? lawBook.of(year).number(what) : NO_SUCH;
    }

    // ---- players, contracts

    public int player() {
        return books.addPlayer();
    }

    public int wrong(int p, int club, int years, int pay, int rise, int sure, boolean choice) {
        Player player = books.playerAt(p);
        if (player == null || !isClub(club) || !areTerms(years, pay, rise, sure, choice)) {
            return RANGE;
        }
        return books.faultsOfContract(player, club, years, pay);
    }

    public int sign(int p, int club, int years, int pay, int rise, int sure, boolean choice) {
        Player player = books.playerAt(p);
        if (player == null || !isClub(club) || !areTerms(years, pay, rise, sure, choice)) {
            return RANGE;
        }
        if (books.faultsOfContract(player, club, years, pay) != 0) {
            return 0;
        }
        books.useSpareIfAboveCap(club, pay);
        player.bind(club, books.clock, years, pay, rise, sure, choice);
        bargain.clear();
        return 1;
    }

    public int choose(int p) {
        Player player = books.playerAt(p);
        if (player == null) {
            return RANGE;
        }
        if (!player.isSigned() || !player.choiceOpen || player.last != books.clock + 1) {
            return STATE;
        }
        player.choiceOpen = false;
        return 1;
    }

    public int waive(int p) {
        Player player = books.playerAt(p);
        if (player == null) {
            return RANGE;
        }
        if (!player.isSigned()) {
            return STATE;
        }
        bargain.clear();
        return books.release(player);
    }

    public int hurt(int p, boolean is) {
        Player player = books.playerAt(p);
        if (player == null) {
            return RANGE;
        }
        int changed = player.isHurt == is ? 0 : 1;
        player.isHurt = is;
        return changed;
    }

    public int about(int p, int what) {
        Player player = books.playerAt(p);
        return player == null ? NO_SUCH : player.fact(what);
    }

    public int club(int c, int year, int what) {
        if (!isClub(c) || !books.isNowOrLater(year)) {
            return RANGE;
        }
        switch (what) {
            case 0:
                return books.counts(c, year);
            case 1:
                return books.dead[c][year];
            case 2:
                return books.playersIn(c, year);
            case 3:
                return year == books.clock && books.spareUsed[c] ? 1 : 0;
            default:
                return RANGE;
        }
    }

    // ---- trades

    public int trade() {
        bargain.clear();
        return 1;
    }

    public int give(int p, int club) {
        Player player = books.playerAt(p);
        if (player == null || !isClub(club)) {
            return RANGE;
        }
        if (!player.isSigned() || player.club == club || bargain.hasPlayer(p)
                || !bargain.canJoin(player.club, club)) {
            return STATE;
        }
        return bargain.addPlayerMove(p, player.club, club);
    }

    public int giveTurn(int of, int year, int club, int k) {
        if (!isClub(of) || !books.isNowOrLater(year) || !isClub(club) || k < 0 || k > CLUBS) {
            return RANGE;
        }
        int key = Turns.keyOf(of, year);
        int from = turns.holder[key];
        if (from == club || bargain.hasTurn(key) || draft.isDrawn(year) || turns.shield[key] != 0
                || !bargain.canJoin(from, club)) {
            return STATE;
        }
        return bargain.addTurnMove(key, from, club, k);
    }

    public int check() {
        return bargain.isEmpty() ? STATE : bargain.firstFault();
    }

    public int gain(int c) {
        return isClub(c) ? bargain.gainOf(c) : NO_SUM;
    }

    public int deal() {
        if (bargain.isEmpty()) {
            return STATE;
        }
        return bargain.firstFault() == 0 ? bargain.carryOut() : 0;
    }

    public int worth(int c, int p, int n) {
        Player player = books.playerAt(p);
        if (player == null || !isClub(c) || !isWorth(n)) {
            return RANGE;
        }
        int before = player.worths[c];
        player.worths[c] = n;
        return before;
    }

    public int worthTurn(int c, int of, int year, int n) {
        if (!isClub(c) || !isClub(of) || !isYear(year) || !isWorth(n)) {
            return RANGE;
        }
        int key = Turns.keyOf(of, year);
        int before = turns.worths[c][key];
        turns.worths[c][key] = n;
        return before;
    }

    public int ring() {
        return rings.findBest();
    }

    public int ringed(int what) {
        return rings.fact(what);
    }

    // ---- the draft, the year's end

    public int table() {
        boolean isTable = Draft.isTable(tape);
        int answer = NONE;
        if (isTable && draft.isDrawn(books.clock)) {
            answer = STATE;
        } else if (isTable) {
            draft.tellTable(tape);
            answer = 1;
        }
        tape.size = 0;
        return answer;
    }

    public long chance(int c, int k, int what) {
        if (!isClub(c) || k < 0 || k > 1 || what < 0 || what > 1) {
            return RANGE;
        }
        if (!draft.tableTold) {
            return STATE;
        }
        draft.findChance(c, k, books.lawsNow());
        return what == 0 ? draft.chanceAbove : draft.chanceBelow;
    }

    public int draw(int first, int second) {
        Laws now = books.lawsNow();
        if (!now.areDraws(first, second)) {
            return RANGE;
        }
        if (!draft.tableTold || draft.isDrawn(books.clock)) {
            return STATE;
        }
        draft.makeOrder(books.clock, now, first, second);
        draft.handOut(books.clock, turns);
        bargain.clear();
        return 1;
    }

    public int turn(int year, int i, int what) {
        if (!isYear(year) || !draft.isDrawn(year) || i < 0 || i >= CLUBS) {
            return NONE;
        }
        if (what == 0) {
            return draft.order[year][i];
        }
        return what == 1 ? draft.having[year][i] : NONE;
    }

    public int owner(int of, int year, int what) {
        if (!isClub(of) || !isYear(year) || what < 0 || what > 1) {
            return RANGE;
        }
        int key = Turns.keyOf(of, year);
        return what == 0 ? turns.holder[key] : turns.shield[key];
    }

    public int next() {
        if (books.clock >= YEARS - 1 || !draft.isDrawn(books.clock)) {
            return STATE;
        }
        books.closeYear();
        draft.tableTold = false;
        bargain.clear();
        return books.clock;
    }

    public int purse(int c) {
        return isClub(c) ? books.fines[c] : NO_SUM;
    }

    public int count(int what) {
        switch (what) {
            case 0:
                return books.clock;
            case 1:
                return books.size;
            case 2:
                return bargain.size;
            case 3:
                return books.leftOver;
            case 4:
                return tape.size;
            case 5:
                return draft.tableTold ? 1 : 0;
            case 6:
                return draft.isDrawn(books.clock) ? 1 : 0;
            default:
                return NONE;
        }
    }

    private static boolean isClub(int c) {
        return c >= 0 && c < CLUBS;
    }

    private static boolean isYear(int year) {
        return year >= 0 && year < YEARS;
    }

    private static boolean isWorth(int n) {
        return n >= 0 && n <= MOST_WORTH;
    }

    private static boolean areTerms(int years, int pay, int rise, int sure, boolean choice) {
        return years >= 1 && years <= MOST_CONTRACT_YEARS
                && pay >= 0 && pay <= MOST_PAY
                && rise >= -MOST_RISE && rise <= MOST_RISE
                && sure >= 0 && sure <= HUNDRED
                && (!choice || years >= 2);
    }

    /** So many hundredths of a sum that is 0 or more, cut; long on the way, as the product may not fit. */
    private static int hundredths(int sum, int hundredths) {
        return (int) ((long) sum * hundredths / HUNDRED);
    }

    /** THE TAPE. */
    private static final class Tape {
        static final int MOST_BYTES = 500;
        static final int BYTES_FED = 20;

        private final byte[] bytes = new byte[MOST_BYTES];
        int size;

        boolean hasRoom() {
            return size + BYTES_FED <= MOST_BYTES;
        }

        void append(int four) {
            for (int shift = 24; shift >= 0 && size < bytes.length; shift -= 8) {
                bytes[size] = (byte) (four >> shift);
                size++;
            }
        }

        /** The byte at a place, or NONE behind the end. */
        int at(int place) {
            return place >= 0 && place < size && place < bytes.length ? bytes[place] & 255 : NONE;
        }
    }

    /** The laws of one text. */
    private static final class Laws {
        private final int[] numbers = new int[LOTS];
        private final int[] lots = new int[MOST_LOTS];
        private int lotCount;

        Laws() {
            reset();
        }

        void reset() {
            System.arraycopy(UNTOLD, 0, numbers, 0, LOTS);
            lots[0] = 1;
            lotCount = 1;
        }

        void copyFrom(Laws other) {
            System.arraycopy(other.numbers, 0, numbers, 0, LOTS);
            System.arraycopy(other.lots, 0, lots, 0, MOST_LOTS);
            lotCount = other.lotCount;
        }

        void put(int what, int value) {
            if (what >= 0 && what < LOTS) {
                numbers[what] = value;
            }
        }

        void putLot(int i, int weight) {
            if (i >= 0 && i < MOST_LOTS) {
                lots[i] = weight;
                lotCount = i + 1;
            }
        }

        int number(int what) {
            if (what >= 0 && what < LOTS) {
                return numbers[what];
            }
            if (what == LOTS) {
                return lotCount;
            }
            return what >= ROW && what - ROW < lotCount ? lots[what - ROW] : NO_SUCH;
        }

        /** How many clubs take part in the lots: a single one would have no one to draw against. */
        int lotClubs() {
            return lotCount >= 2 ? lotCount : 0;
        }

        int weight(int i) {
            return i >= 0 && i < lotCount ? lots[i] : 0;
        }

        int weightSum() {
            int sum = 0;
            for (int i = 0; i < lotCount; i++) {
                sum += lots[i];
            }
            return sum;
        }

        /** Whom a number falls on, going through the weights but the one left aside; NONE beyond them. */
        int lotOf(int number, int aside) {
            int behind = 0;
            for (int i = 0; i < lotClubs(); i++) {
                if (i != aside) {
                    behind += lots[i];
                    if (number < behind) {
                        return i;
                    }
                }
            }
            return NONE;
        }

        boolean areDraws(int first, int second) {
            if (lotClubs() == 0) {
                return first == 0 && second == 0;
            }
            if (first < 0 || second < 0) {
                return false;
            }
            int lot = lotOf(first, NONE);
            return lot != NONE && lotOf(second, lot) != NONE;
        }
    }

    /** The laws of all years. */
    private static final class LawBook {
        private final Laws untold = new Laws();
        private final Laws[] texts = new Laws[YEARS];

        void tell(int year, Laws read) {
            if (!isYear(year)) {
                return;
            }
            if (texts[year] == null) {
                texts[year] = new Laws();
            }
            texts[year].copyFrom(read);
        }

        Laws of(int year) {
            for (int y = YEARS - 1; y >= 0; y--) {
                if (y <= year && texts[y] != null) {
                    return texts[y];
                }
            }
            return untold;
        }
    }

    /** Reads a text of laws token by token, up to its first fault. */
    private static final class LawReader {
        static final int SYNTAX = 1;
        static final int OUT_OF_BOUNDS = 2;
        static final int TWICE = 3;

        private static final int AT_END = 0;
        private static final int WORD = 1;
        private static final int NUMBER = 2;
        private static final int MARK = 3;
        private static final int NO_TOKEN = 4;
        private static final int MOST_DIGITS = 5;

        private final Tape tape;
        final Laws read = new Laws();
        int faultKind;
        int faultPlace = NONE;

        private int kind;
        private int place;
        private int behind;
        private int value;
        private int toldLines;

        LawReader(Tape tape) {
            this.tape = tape;
        }

        /** How many lines; NONE with a fault. */
        int readText() {
            read.reset();
            faultKind = 0;
            faultPlace = NONE;
            behind = 0;
            toldLines = 0;
            int lines = 0;
            while (lines <= Tape.MOST_BYTES) {
                readToken();
                if (kind == AT_END) {
                    return lines;
                }
                if (!readLine()) {
                    return NONE;
                }
                lines++;
            }
            return NONE;
        }

        private boolean readLine() {
            int line = kind == WORD ? lineOfWord() : NONE;
            if (line == NONE) {
                return fail(SYNTAX);
            }
            if ((toldLines & 1 << line) != 0) {
                return fail(TWICE);
            }
            toldLines |= 1 << line;
            return line == LOTS ? readLots() : readNumbers(line);
        }

        private boolean readNumbers(int line) {
            int last = line == MATCH ? MATCH_MORE : line;
            for (int what = line; what <= last; what++) {
                readToken();
                if (!isNumberFor(what)) {
                    return false;
                }
                read.put(what, value);
            }
            readToken();
            return kind == MARK || fail(SYNTAX);
        }

        private boolean readLots() {
            for (int i = 0; i < MOST_LOTS; i++) {
                readToken();
                if (kind == MARK && i > 0) {
                    return true;
                }
                if (!isNumberFor(LOTS)) {
                    return false;
                }
                read.putLot(i, value);
            }
            readToken();
            return kind == MARK || fail(SYNTAX);
        }

        private boolean isNumberFor(int what) {
            if (kind != NUMBER) {
                return fail(SYNTAX);
            }
            if (what < 0 || what > LOTS || value < LEAST[what] || value > MOST[what]) {
                return fail(OUT_OF_BOUNDS);
            }
            return true;
        }

        private boolean fail(int fault) {
            faultKind = fault;
            faultPlace = place;
            return false;
        }

        private void readToken() {
            place = behind;
            while (place < tape.size && isBlank(tape.at(place))) {
                place++;
            }
            int sign = tape.at(place);
            if (sign == NONE) {
                kind = AT_END;
                behind = place;
            } else if (isLetter(sign)) {
                readWord();
            } else if (isDigit(sign)) {
                readNumber();
            } else {
                kind = sign == ';' ? MARK : NO_TOKEN;
                behind = place + 1;
            }
        }

        private void readWord() {
            kind = WORD;
            behind = place;
            while (behind < tape.size && isLetter(tape.at(behind))) {
                behind++;
            }
        }

        private void readNumber() {
            behind = place;
            value = 0;
            while (behind < tape.size && isDigit(tape.at(behind))) {
                value = value * 10 + tape.at(behind) - '0';
                behind++;
            }
            kind = behind - place <= MOST_DIGITS ? NUMBER : NO_TOKEN;
        }

        private int lineOfWord() {
            for (int line = 0; line <= LOTS; line++) {
                if (isWord(wordOf(line))) {
                    return line;
                }
            }
            return NONE;
        }

        private boolean isWord(String word) {
            if (word.length() != behind - place) {
                return false;
            }
            for (int i = 0; i < word.length(); i++) {
                if (tape.at(place + i) != word.charAt(i)) {
                    return false;
                }
            }
            return true;
        }

        private static String wordOf(int line) {
            switch (line) {
                case CAP:
                    return "cap";
                case ROSTER:
                    return "roster";
                case LENGTH:
                    return "years";
                case SPARE:
                    return "spare";
                case MATCH:
                    return "match";
                case HURT:
                    return "hurt";
                case TAX:
                    return "tax";
                case LOTS:
                    return "lots";
                default:
                    return ""; // match has two numbers: no line begins with its second
            }
        }

        private static boolean isBlank(int sign) {
            return sign == 32 || sign == 10;
        }

        private static boolean isLetter(int sign) {
            return sign >= 'a' && sign <= 'z';
        }

        private static boolean isDigit(int sign) {
            return sign >= '0' && sign <= '9';
        }
    }

    /** A player, with the contract if there is one. */
    private static final class Player {
        int club = NONE;
        private int from;
        int last;
        private int pay;
        private int rise;
        int sure;
        /** The last year is a choice that is not taken; one that is taken is a year like others. */
        boolean choiceOpen;
        boolean isHurt;
        final int[] worths = new int[CLUBS];

        void bind(int toClub, int year, int years, int firstPay, int yearlyRise, int surePart, boolean choice) {
            club = toClub;
            from = year;
            last = year + years - 1;
            pay = firstPay;
            rise = yearlyRise;
            sure = surePart;
            choiceOpen = choice;
        }

        void unbind() {
            bind(NONE, 0, 0, 0, 0, 0, false);
        }

        boolean isSigned() {
            return club != NONE;
        }

        int payIn(int year) {
            if (!isSigned() || year < from || year > last) {
                return 0;
            }
            return Math.max(0, pay + rise * (year - from));
        }

        boolean isBoundIn(int year) {
            return isSigned() && year >= from && year <= (choiceOpen ? last - 1 : last);
        }

        int fact(int what) {
            switch (what) {
                case 0:
                    return club;
                case 1:
                    return isSigned() ? last : NONE;
                case 2:
                    return choiceOpen ? 1 : 0;
                case 3:
                    return sure;
                case 4:
                    return isHurt ? 1 : 0;
                default:
                    return what >= ROW && what < ROW + YEARS ? payIn(what - ROW) : NO_SUCH;
            }
        }
    }

    /** Players, what counts for the clubs, and the clock. */
    private static final class Books {
        private final LawBook lawBook;
        private final Player[] players = new Player[MOST_PLAYERS];
        int size;
        int clock;
        final int[][] dead = new int[CLUBS][YEARS];
        final boolean[] spareUsed = new boolean[CLUBS];
        final int[] fines = new int[CLUBS];
        int leftOver;
        private final int[] aboveCap = new int[CLUBS];

        Books(LawBook lawBook) {
            this.lawBook = lawBook;
        }

        Laws lawsNow() {
            return lawBook.of(clock);
        }

        /** Whether there is such a year, and it is not gone. */
        boolean isNowOrLater(int year) {
            return isYear(year) && year >= clock;
        }

        int addPlayer() {
            if (size >= MOST_PLAYERS) {
                return FULL;
            }
            players[size] = new Player();
            size++;
            return size - 1;
        }

        Player playerAt(int p) {
            return p >= 0 && p < size && p < players.length ? players[p] : null;
        }

        /** What one player counts for the club in a year. */
        int countOf(Player player, int year) {
            if (!player.isBoundIn(year)) {
                return 0;
            }
            int pay = player.payIn(year);
            boolean isLess = player.isHurt && year == clock;
            return isLess ? pay - hundredths(pay, lawsNow().number(HURT)) : pay;
        }

        int counts(int c, int year) {
            int sum = isClub(c) && isYear(year) ? dead[c][year] : 0;
            for (int p = 0; p < size; p++) {
                Player player = playerAt(p);
                if (player != null && player.club == c) {
                    sum += countOf(player, year);
                }
            }
            return sum;
        }

        int playersIn(int c, int year) {
            int found = 0;
            for (int p = 0; p < size; p++) {
                Player player = playerAt(p);
                if (player != null && player.club == c && player.isBoundIn(year)) {
                    found++;
                }
            }
            return found;
        }

        int faultsOfContract(Player player, int c, int years, int firstPay) {
            Laws now = lawsNow();
            int faults = player.isSigned() ? 1 : 0;
            if (playersIn(c, clock) >= now.number(ROSTER)) {
                faults |= 2;
            }
            if (years > now.number(LENGTH)) {
                faults |= 4;
            }
            if (isAboveCap(c, firstPay) && (firstPay > now.number(SPARE) || isSpareUsed(c))) {
                faults |= 8;
            }
            return faults;
        }

        private boolean isAboveCap(int c, int more) {
            return counts(c, clock) + more > lawsNow().number(CAP);
        }

        private boolean isSpareUsed(int c) {
            return isClub(c) && spareUsed[c];
        }

        void useSpareIfAboveCap(int c, int firstPay) {
            if (isClub(c) && isAboveCap(c, firstPay)) {
                spareUsed[c] = true;
            }
        }

        /** Ends a contract by a waiver: the dead money that comes of it. */
        int release(Player player) {
            int sum = 0;
            for (int year = clock; year < YEARS && isClub(player.club); year++) {
                if (player.isBoundIn(year)) {
                    int part = hundredths(player.payIn(year), player.sure);
                    dead[player.club][year] += part;
                    sum += part;
                }
            }
            player.unbind();
            return sum;
        }

        void closeYear() {
            shareFines();
            clock++;
            for (int c = 0; c < CLUBS; c++) {
                spareUsed[c] = false;
            }
            for (int p = 0; p < size; p++) {
                Player player = playerAt(p);
                if (player != null) {
                    player.isHurt = false;
                    endContractIfOver(player);
                }
            }
        }

        private void endContractIfOver(Player player) {
            if (player.isSigned() && !player.isBoundIn(clock)) {
                player.unbind();
            }
        }

        private void shareFines() {
            int sum = 0;
            int sharers = 0;
            for (int c = 0; c < CLUBS; c++) {
                aboveCap[c] = Math.max(0, counts(c, clock) - lawsNow().number(CAP));
                int fine = hundredths(aboveCap[c], lawsNow().number(TAX));
                fines[c] += fine;
                sum += fine;
                sharers += aboveCap[c] == 0 ? 1 : 0;
            }
            int share = sharers > 0 ? sum / sharers : 0;
            for (int c = 0; c < CLUBS; c++) {
                if (aboveCap[c] == 0) {
                    fines[c] -= share;
                }
            }
            leftOver += sum - share * sharers;
        }
    }

    /** To whom the turns of all drafts belong. */
    private static final class Turns {
        static final int TURNS = CLUBS * YEARS;

        final int[] holder = new int[TURNS];
        final int[] shield = new int[TURNS];
        private final int[] giver = new int[TURNS];
        final int[][] worths = new int[CLUBS][TURNS];

        Turns() {
            for (int key = 0; key < TURNS; key++) {
                holder[key] = key / YEARS;
            }
        }

        static int keyOf(int of, int year) {
            return of * YEARS + year;
        }

        void hand(int key, int to, int k) {
            if (key >= 0 && key < TURNS) {
                giver[key] = holder[key];
                holder[key] = to;
                shield[key] = k;
            }
        }

        /** Who has a turn that comes at this place of its draft: a protected one may go back. */
        int settle(int key, int place) {
            if (key < 0 || key >= TURNS) {
                return NONE;
            }
            if (place < shield[key]) {
                holder[key] = giver[key];
                shield[key] = 0;
            }
            return holder[key];
        }
    }

    /** What of a club's players would come and go: their pays of the year, and what they count. */
    private static final class Change {
        private int more;
        private int payIn;
        private int payOut;
        private int countMore;

        void clear() {
            more = 0;
            payIn = 0;
            payOut = 0;
            countMore = 0;
        }

        void comes(int pay, int count) {
            more++;
            payIn += pay;
            countMore += count;
        }

        void goes(int pay, int count) {
            more--;
            payOut += pay;
            countMore -= count;
        }

        /** What is wrong with it for a club that has so many players, and counts so much, ahead of it. */
        int faultFor(int players, int counts, Laws now) {
            if (players + more > now.number(ROSTER)) {
                return 1;
            }
            int allowed = hundredths(payOut, now.number(MATCH)) + now.number(MATCH_MORE);
            return counts + countMore > now.number(CAP) && payIn > allowed ? 2 : 0;
        }
    }

    /** The trade that is being told, move by move. */
    private static final class Trade {
        private static final int MOST_MOVES = 12;
        private static final int MOST_CLUBS = 4;

        private final Books books;
        private final Turns turns;
        private final Change change = new Change();
        int size;
        private int clubBits;
        private final boolean[] isTurn = new boolean[MOST_MOVES];
        /** What moves: a player's number, or a turn's key. */
        private final int[] thing = new int[MOST_MOVES];
        private final int[] from = new int[MOST_MOVES];
        private final int[] to = new int[MOST_MOVES];
        private final int[] shield = new int[MOST_MOVES];

        Trade(Books books, Turns turns) {
            this.books = books;
            this.turns = turns;
        }

        void clear() {
            size = 0;
            clubBits = 0;
        }

        boolean isEmpty() {
            return size == 0;
        }

        boolean hasPlayer(int p) {
            return has(p, false);
        }

        boolean hasTurn(int key) {
            return has(key, true);
        }

        private boolean has(int which, boolean asTurn) {
            for (int i = 0; i < size; i++) {
                if (thing[i] == which && isTurn[i] == asTurn) {
                    return true;
                }
            }
            return false;
        }

        boolean canJoin(int c, int d) {
            return Integer.bitCount(clubBits | 1 << c | 1 << d) <= MOST_CLUBS;
        }

        int addPlayerMove(int p, int giver, int getter) {
            return add(p, false, giver, getter, 0);
        }

        int addTurnMove(int key, int giver, int getter, int k) {
            return add(key, true, giver, getter, k);
        }

        private int add(int which, boolean asTurn, int giver, int getter, int k) {
            if (size >= MOST_MOVES) {
                return FULL;
            }
            thing[size] = which;
            isTurn[size] = asTurn;
            from[size] = giver;
            to[size] = getter;
            shield[size] = k;
            clubBits |= 1 << giver | 1 << getter;
            size++;
            return size;
        }

        int firstFault() {
            for (int c = 0; c < CLUBS; c++) {
                int fault = (clubBits & 1 << c) != 0 ? faultFor(c) : 0;
                if (fault != 0) {
                    return HUNDRED * c + fault;
                }
            }
            return 0;
        }

        private int faultFor(int c) {
            change.clear();
            for (int i = 0; i < size; i++) {
                Player player = isTurn[i] ? null : books.playerAt(thing[i]);
                if (player != null && to[i] == c) {
                    change.comes(player.payIn(books.clock), books.countOf(player, books.clock));
                } else if (player != null && from[i] == c) {
                    change.goes(player.payIn(books.clock), books.countOf(player, books.clock));
                }
            }
            int players = books.playersIn(c, books.clock);
            return change.faultFor(players, books.counts(c, books.clock), books.lawsNow());
        }

        int gainOf(int c) {
            int sum = 0;
            for (int i = 0; i < size; i++) {
                if (to[i] == c) {
                    sum += worthOfMove(i, c);
                } else if (from[i] == c) {
                    sum -= worthOfMove(i, c);
                }
            }
            return sum;
        }

        private int worthOfMove(int i, int c) {
            int which = thing[i];
            if (isTurn[i]) {
                return which >= 0 && which < Turns.TURNS ? turns.worths[c][which] : 0;
            }
            Player player = books.playerAt(which);
            return player == null ? 0 : player.worths[c];
        }

        int carryOut() {
            int moves = size;
            for (int i = 0; i < moves; i++) {
                Player player = isTurn[i] ? null : books.playerAt(thing[i]);
                if (isTurn[i]) {
                    turns.hand(thing[i], to[i], shield[i]);
                } else if (player != null) {
                    player.club = to[i];
                }
            }
            clear();
            return moves;
        }
    }

    /** The search for the best ring. */
    private static final class RingSearch {
        private static final int MOST_IN_RING = 3;

        private final Books books;
        private final Change change = new Change();
        /** Players under contract, by clubs, then by numbers; a club's begin at its start. */
        private final int[] line = new int[MOST_PLAYERS];
        private final int[] start = new int[CLUBS + 1];
        private final int[] pays = new int[MOST_PLAYERS];
        private final int[] counts = new int[MOST_PLAYERS];
        /** At [p][q]: what the club of p gains if it gives p and gets q; 0 if that is not legal, or no gain. */
        private final int[][] gains = new int[MOST_PLAYERS][MOST_PLAYERS];
        /** The greatest of a player's gains, and of a club's: rings that can't be better are passed over by them. */
        private final int[] playerTop = new int[MOST_PLAYERS];
        private final int[] clubTop = new int[CLUBS];
        private int best;
        private int clubsInRing;
        private final int[] clubRow = new int[MOST_IN_RING];
        private final int[] playerRow = new int[MOST_IN_RING];

        RingSearch(Books books) {
            this.books = books;
        }

        /** The sum of gains; rings come in the order in which equal ones win, so only a greater sum displaces one. */
        int findBest() {
            lineUp();
            for (int c = 0; c < CLUBS; c++) {
                findGains(c);
            }
            best = 0;
            for (int a = 0; a < CLUBS; a++) {
                for (int b = a + 1; b < CLUBS; b++) {
                    tryTwo(a, b);
                }
            }
            for (int a = 0; a < CLUBS; a++) {
                for (int b = a + 1; b < CLUBS; b++) {
                    for (int c = a + 1; c < CLUBS; c++) {
                        if (c != b) {
                            tryThree(a, b, c);
                        }
                    }
                }
            }
            return best > 0 ? best : NONE;
        }

        int fact(int what) {
            if (what == 0) {
                return clubsInRing > 0 ? clubsInRing : NONE;
            }
            if (what >= 1 && what <= clubsInRing) {
                return clubRow[what - 1];
            }
            return what >= 4 && what - 4 < clubsInRing ? playerRow[what - 4] : NONE;
        }

        private void lineUp() {
            int filled = 0;
            for (int c = 0; c < CLUBS; c++) {
                start[c] = filled;
                for (int p = 0; p < books.size; p++) {
                    Player player = books.playerAt(p);
                    if (player != null && player.club == c && filled < line.length) {
                        line[filled] = p;
                        pays[p] = player.payIn(books.clock);
                        counts[p] = books.countOf(player, books.clock);
                        filled++;
                    }
                }
            }
            start[CLUBS] = filled;
        }

        private void findGains(int c) {
            Laws now = books.lawsNow();
            int players = start[c + 1] - start[c];
            int clubCounts = books.counts(c, books.clock);
            clubTop[c] = 0;
            for (int i = start[c]; i < start[c + 1]; i++) {
                int p = line[i];
                playerTop[p] = 0;
                for (int j = 0; j < start[CLUBS]; j++) {
                    int q = line[j];
                    boolean isOther = j < start[c] || j >= start[c + 1];
                    int more = isOther ? worthMore(c, p, q) : 0;
                    gains[p][q] = more > 0 && isLegal(p, q, players, clubCounts, now) ? more : 0;
                    playerTop[p] = Math.max(playerTop[p], gains[p][q]);
                }
                clubTop[c] = Math.max(clubTop[c], playerTop[p]);
            }
        }

        /** By how much q is worth more to a club than p. */
        private int worthMore(int c, int p, int q) {
            Player out = books.playerAt(p);
            Player in = books.playerAt(q);
            return out == null || in == null ? 0 : in.worths[c] - out.worths[c];
        }

        private boolean isLegal(int p, int q, int players, int clubCounts, Laws now) {
            change.clear();
            change.goes(pays[p], counts[p]);
            change.comes(pays[q], counts[q]);
            return change.faultFor(players, clubCounts, now) == 0;
        }

        private void tryTwo(int a, int b) {
            for (int i = start[a]; i < start[a + 1]; i++) {
                for (int j = start[b]; j < start[b + 1]; j++) {
                    int gainA = gains[line[i]][line[j]];
                    int gainB = gains[line[j]][line[i]];
                    if (gainA > 0 && gainB > 0 && gainA + gainB > best) {
                        best = gainA + gainB;
                        keep(2, 0, a, line[i]);
                        keep(2, 1, b, line[j]);
                    }
                }
            }
        }

        private void tryThree(int a, int b, int c) {
            if (clubTop[a] + clubTop[b] + clubTop[c] <= best) {
                return;
            }
            for (int i = start[a]; i < start[a + 1]; i++) {
                for (int j = start[b]; j < start[b + 1]; j++) {
                    int gainB = gains[line[j]][line[i]];
                    if (gainB > 0 && gainB + playerTop[line[i]] + clubTop[c] > best) {
                        tryThird(c, a, line[i], b, line[j]);
                    }
                }
            }
        }

        /** Club a gives p to b, b gives q to c, and c gives one of its players to a. */
        private void tryThird(int c, int a, int p, int b, int q) {
            int gainB = gains[q][p];
            for (int i = start[c]; i < start[c + 1]; i++) {
                int gainA = gains[p][line[i]];
                int gainC = gains[line[i]][q];
                if (gainA > 0 && gainC > 0 && gainA + gainB + gainC > best) {
                    best = gainA + gainB + gainC;
                    keep(3, 0, a, p);
                    keep(3, 1, b, q);
                    keep(3, 2, c, line[i]);
                }
            }
        }

        private void keep(int clubs, int i, int c, int p) {
            clubsInRing = clubs;
            clubRow[i] = c;
            playerRow[i] = p;
        }
    }

    /** The drafts: the table of this year, and the orders of those that were drawn. */
    private static final class Draft {
        private static final int FIRST_LETTER = 65;

        private final int[] ranks = new int[CLUBS];
        boolean tableTold;
        private final boolean[] drawn = new boolean[YEARS];
        final int[][] order = new int[YEARS][CLUBS];
        final int[][] having = new int[YEARS][CLUBS];
        long chanceAbove;
        long chanceBelow = 1;

        boolean isDrawn(int year) {
            return isYear(year) && drawn[year];
        }

        static boolean isTable(Tape tape) {
            int seen = 0;
            for (int i = 0; i < CLUBS; i++) {
                int c = tape.at(i) - FIRST_LETTER;
                if (isClub(c)) {
                    seen |= 1 << c;
                }
            }
            return tape.size == CLUBS && Integer.bitCount(seen) == CLUBS;
        }

        void tellTable(Tape tape) {
            for (int i = 0; i < CLUBS; i++) {
                ranks[i] = tape.at(i) - FIRST_LETTER;
            }
            tableTold = true;
        }

        private int rankOf(int c) {
            for (int i = 0; i < CLUBS; i++) {
                if (ranks[i] == c) {
                    return i;
                }
            }
            return NONE;
        }

        void findChance(int c, int k, Laws now) {
            int rank = rankOf(c);
            chanceAbove = 0;
            chanceBelow = 1;
            if (now.lotClubs() == 0) {
                chanceAbove = rank == k ? 1 : 0;
            } else if (rank != NONE && rank < now.lotClubs()) {
                if (k == 0) {
                    chanceAbove = now.weight(rank);
                    chanceBelow = now.weightSum();
                } else {
                    findSecondChance(rank, now);
                }
                cutFraction();
            }
        }

        /** The ways over each other club that may come first, all brought to one lower part. */
        private void findSecondChance(int rank, Laws now) {
            int sum = now.weightSum();
            long below = sum;
            long above = 0;
            for (int i = 0; i < now.lotClubs(); i++) {
                if (i != rank) {
                    below *= sum - now.weight(i);
                    above += now.weight(i) * leftWithout(rank, i, now);
                }
            }
            chanceAbove = above * now.weight(rank);
            chanceBelow = below;
        }

        /** The product of what is left behind each club that may come first, two clubs aside. */
        private static long leftWithout(int rank, int first, Laws now) {
            int sum = now.weightSum();
            long product = 1;
            for (int i = 0; i < now.lotClubs(); i++) {
                if (i != rank && i != first) {
                    product *= sum - now.weight(i);
                }
            }
            return product;
        }

        private void cutFraction() {
            long a = chanceAbove;
            long b = chanceBelow;
            for (int step = 0; step < 200 && b != 0; step++) {
                long rest = a % b;
                a = b;
                b = rest;
            }
            if (a > 0) {
                chanceAbove /= a;
                chanceBelow /= a;
            }
        }

        void makeOrder(int year, Laws now, int first, int second) {
            if (!isYear(year)) {
                return;
            }
            int firstLot = now.lotOf(first, NONE);
            int secondLot = firstLot == NONE ? NONE : now.lotOf(second, firstLot);
            int filled = 0;
            if (firstLot != NONE && secondLot != NONE) {
                order[year][0] = ranks[firstLot];
                order[year][1] = ranks[secondLot];
                filled = 2;
            }
            for (int i = 0; i < CLUBS && filled < CLUBS; i++) {
                if (i != firstLot && i != secondLot) {
                    order[year][filled] = ranks[i];
                    filled++;
                }
            }
        }

        void handOut(int year, Turns turns) {
            if (!isYear(year)) {
                return;
            }
            drawn[year] = true;
            for (int i = 0; i < CLUBS; i++) {
                having[year][i] = turns.settle(Turns.keyOf(order[year][i], year), i);
            }
        }
    }
}
