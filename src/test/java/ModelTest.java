import java.lang.reflect.InvocationTargetException;
import java.lang.reflect.Method;
import java.lang.reflect.Modifier;
import java.util.Arrays;
import java.util.HashMap;
import java.util.Map;
import java.util.Random;

/** All promises at once: runs of any 512 calls, in which the program answers what the model of the document does. */
public final class ModelTest {
    private static final int RUNS = 1500;
    private static final int CALLS = 512;
    private static final String[] TOKENS = {"cap", "roster", "years", "spare", "match", "hurt", "tax", "lots", ";", ";",
        ";", " ", "\n", "0", "1", "2", "5", "15", "16", "20", "21", "100", "300", "301", "5000", "50000", "50001",
        "000005", "x", "?", "\t", "caps"};
    private static final int[] ODD = {Integer.MIN_VALUE, Integer.MIN_VALUE + 10, -1, 10, 60, 10000, Integer.MAX_VALUE};
    private static final Map<String, Method[]> METHODS = new HashMap<>();

    private final CapLeague program = new CapLeague();
    private final Model model = new Model();
    private final Random random;
    private final String name;
    /** Every so many numbers one is any at all; 0: none. */
    private final int oddEvery;
    private int calls = 0;

    private ModelTest(int seed) {
        random = new Random(seed);
        name = "run " + seed;
        oddEvery = seed % 3 == 0 ? 8 : 0;
    }

    public static void main(String[] args) throws ReflectiveOperationException {
        for (Method asked : CapLeague.class.getDeclaredMethods()) {
            if (Modifier.isPublic(asked.getModifiers())) {
                Method due = Model.class.getDeclaredMethod(asked.getName(), asked.getParameterTypes());
                METHODS.put(asked.getName(), new Method[] {asked, due});
            }
        }
        for (int seed = 0; seed < RUNS; seed++) {
            new ModelTest(seed).run(seed);
        }
        Due.done();
    }

    private void run(int seed) throws ReflectiveOperationException {
        int players = seed % 5 == 0 ? 60 : seed % 25;
        if (seed % 4 != 1) {
            text("cap " + (50 + any(200)) + ";spare " + any(60) + ";roster " + (1 + any(9)) + ";lots 3 2 1;");
            ask("laws", 0);
        }
        for (int p = 0; p < players; p++) {
            ask("player");
        }
        while (calls < CALLS) {
            if (seed % 7 == 6) {
                ofLaws();
            } else {
                step(random.nextInt(seed % 3 == 1 ? 43 : 42), seed % 5 == 0 ? 14 : players + 1);
            }
        }
    }

    private void ask(String call, Object... args) throws ReflectiveOperationException {
        if (calls >= CALLS) {
            return;
        }
        calls++;
        Method[] both = METHODS.get(call);
        long got = ((Number) invoke(both[0], program, args)).longValue();
        long due = ((Number) invoke(both[1], model, args)).longValue();
        Due.is(name + ", call " + calls + ": " + call + Arrays.toString(args), got, due);
    }

    private static Object invoke(Method method, Object on, Object... args) throws ReflectiveOperationException {
        try {
            return method.invoke(on, args);
        } catch (InvocationTargetException thrown) {
            throw new IllegalStateException(method + Arrays.toString(args), thrown.getCause());
        }
    }

    private int any(int most) {
        if (oddEvery > 0 && random.nextInt(oddEvery) == 0) {
            return random.nextInt(3) == 0 ? most + 1 : ODD[random.nextInt(ODD.length)];
        }
        return random.nextInt(most + 1);
    }

    private void text(String text) throws ReflectiveOperationException {
        ask("end", 0);
        for (int at = 0; at < text.length(); at += 20) {
            Object[] five = new Object[5];
            for (int i = 0; i < 5; i++) {
                int four = 0;
                for (int j = at + 4 * i; j < at + 4 * i + 4; j++) {
                    four = four << 8 | (j < text.length() ? text.charAt(j) : 32);
                }
                five[i] = four;
            }
            ask("feed", five);
        }
        ask("end", text.length());
    }

    private void ofLaws() throws ReflectiveOperationException {
        StringBuilder tokens = new StringBuilder();
        for (int i = random.nextInt(12); i > 0; i--) {
            tokens.append(random.nextInt(3) == 0 ? TOKENS[random.nextInt(TOKENS.length)] : line());
            tokens.append(random.nextInt(4) == 0 ? "\n " : "");
        }
        text(tokens.toString());
        ask("laws", any(9));
        ask("fault", 0);
        ask("fault", 1);
        int year = any(9);
        for (int what = 0; what < 16; what += 1 + random.nextInt(3)) {
            ask("law", year, what);
        }
    }

    private String line() {
        String[] lines = {"cap " + (50 + random.nextInt(300)) + ";", "roster " + random.nextInt(17) + ";",
            "years " + (1 + random.nextInt(5)) + ";", "spare " + random.nextInt(90) + ";", "match "
            + random.nextInt(302) + " " + random.nextInt(40) + ";", "hurt " + random.nextInt(102) + ";",
            "tax " + random.nextInt(302) + ";", "lots " + "9 7 5 4 3 2 ".substring(0, 2 + 2 * random.nextInt(6)) + ";"};
        return lines[random.nextInt(lines.length)];
    }

    private void step(int kind, int players) throws ReflectiveOperationException {
        if (kind < 14) {
            ofContracts(kind, players);
        } else if (kind < 26) {
            ofTrades(kind, players);
        } else if (kind < 40) {
            ofTheDraft(kind);
        } else if (kind < 42) {
            wholeTrade(players);
        } else {
            yearsEnd();
        }
    }

    private void wholeTrade(int players) throws ReflectiveOperationException {
        ask("trade");
        int from = random.nextInt(8);
        for (int i = 2 + random.nextInt(12); i > 0; i--) {
            int to = (from + random.nextInt(4)) % 8;
            int p = boundNear(from, players);
            if (random.nextInt(3) > 0) {
                ask("give", p, to);
                ask("worth", to, p, any(9));
            } else {
                ask("giveTurn", any(7), year(), to, random.nextBoolean() ? 0 : any(8));
            }
        }
        for (int c = 0; c < 8; c++) {
            ask("gain", c);
        }
        ask("check");
        ask(random.nextInt(3) == 0 ? "ring" : "deal");
    }

    /** A player under contract with one of four clubs, if it is soon found. */
    private int boundNear(int from, int players) {
        int p = any(players);
        for (int i = 0; i < 20 && (model.about(p, 0) < 0 || (model.about(p, 0) - from + 8) % 8 > 3); i++) {
            p = any(players);
        }
        return p;
    }

    private void yearsEnd() throws ReflectiveOperationException {
        text("cap " + (1 + random.nextInt(60)) + ";tax " + random.nextInt(301) + ";hurt " + random.nextInt(101) + ";");
        ask("laws", model.count(0));
        text("HDBFACGE");
        ask("table");
        ask("draw", 0, 0);
        ask("next");
        for (int c = 0; c < 8; c++) {
            ask("purse", c);
        }
        ask("count", 3);
        text(line());
        ask("laws", model.count(0));
    }

    /** Most often one that is not gone. */
    private int year() {
        return random.nextInt(4) == 0 ? any(9) : Math.min(9, model.count(0) + any(3));
    }

    private void ofContracts(int kind, int players) throws ReflectiveOperationException {
        switch (kind) {
            case 0 -> ask("player");
            case 1 -> ask("wrong", any(players), any(7), 1 + any(4), any(120), any(80) - 40, any(100), choice());
            case 2, 3, 4, 5, 6 ->
                ask("sign", any(players), any(7), 1 + any(3), any(120), any(80) - 40, any(100), choice());
            case 7 -> ask("choose", any(players));
            case 8 -> ask("waive", any(players));
            case 9 -> ask("hurt", any(players), random.nextBoolean());
            case 10, 11 -> ask("about", any(players), random.nextBoolean() ? any(4) : any(20));
            default -> ask("club", any(7), year(), any(3));
        }
    }

    private boolean choice() {
        return random.nextInt(3) == 0;
    }

    private void ofTrades(int kind, int players) throws ReflectiveOperationException {
        switch (kind) {
            case 14 -> ask(random.nextInt(4) == 0 ? "trade" : "check");
            case 15, 16 -> ask("give", any(players), any(7));
            case 17 -> ask("giveTurn", any(7), year(), any(7), any(8));
            case 18 -> ask("gain", any(7));
            case 19 -> ask("deal");
            case 20, 21, 22 -> ask("worth", any(7), any(players), any(random.nextBoolean() ? 9 : 9999));
            case 23 -> ask("worthTurn", any(7), any(7), year(), any(9999));
            case 24 -> ask("ring");
            default -> ask("ringed", any(6));
        }
    }

    private void ofTheDraft(int kind) throws ReflectiveOperationException {
        switch (kind) {
            case 26, 27 -> {
                text(random.nextInt(6) == 0 ? "ABCDEFG" : "CAFHBDEG");
                ask("table");
            }
            case 28 -> ask("chance", any(7), any(1), any(1));
            case 29, 30 -> ask("draw", any(8), any(4));
            case 31 -> ask("draw", 0, 0);
            case 32 -> ask("turn", any(9), any(7), any(1));
            case 33, 34 -> ask("owner", any(7), any(9), any(1));
            case 35 -> ask("next");
            case 36 -> ask("purse", any(7));
            case 37 -> ask("count", any(6));
            case 38 -> {
                text(line() + (random.nextInt(3) == 0 ? line() : ""));
                ask("laws", year());
            }
            default -> ask("feed", random.nextInt(), random.nextInt(), random.nextInt(), any(9), any(9));
        }
    }
}
