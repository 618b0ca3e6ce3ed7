import java.lang.reflect.InvocationTargetException;
import java.lang.reflect.Method;
import java.lang.reflect.Modifier;
import java.util.ArrayList;
import java.util.Arrays;
import java.util.Collections;
import java.util.Comparator;
import java.util.List;
import java.util.Map;
import java.util.Random;
import java.util.TreeMap;

/**
 * Random runs of calls, each call made on a FishGrader and on the model; the answers have to be the same. Every fourth
 * run is a wide one: its numbers are taken from the whole of their bounds.
 */
public final class RandomRunsTest {
    private static final int RUNS = Integer.getInteger("runs", 1500);
    private static final List<String> CHANGES = List.of("advance", "advance", "advance", "advance", "advance",
            "combine", "combine", "release", "release", "addItem", "addItem", "setRule", "setLimit", "setTarget",
            "moveQuota", "undo", "save");
    /** Too slow in the model, or no question. */
    private static final List<String> NOT_SWEPT = List.of("load", "restore", "bestLimit", "bestRule");

    private final Random random;
    private final TextMaker maker;
    private final boolean wide;
    private final FishGrader grader = new FishGrader();
    private final GraderModel model = new GraderModel();
    private final List<String> log = new ArrayList<>();
    private int calls = 0;
    private static final Map<String, Integer> SEEN = new TreeMap<>();
    private static final List<Method> METHODS = new ArrayList<>();

    private RandomRunsTest(long seed) {
        random = new Random(seed);
        maker = new TextMaker(random);
        wide = seed % 4 == 3;
    }

    public static void main(String[] args) throws Exception {
        for (Method m : FishGrader.class.getDeclaredMethods()) {
            if (Modifier.isPublic(m.getModifiers())) {
                METHODS.add(m);
            }
        }
        METHODS.sort(Comparator.comparing(Method::getName));
        int wrong = 0;
        for (int run = 0; run < RUNS && wrong < 5; run++) {
            RandomRunsTest test = new RandomRunsTest(run);
            String fault = test.run();
            if (fault != null) {
                wrong++;
                System.out.println("run " + run + ": " + fault);
                System.out.println(String.join("\n", test.log));
            }
        }
        if (System.getProperty("seen") != null) {
            SEEN.forEach((k, v) -> System.out.println(k + " " + v));
        }
        if (wrong > 0) {
            System.exit(1);
        }
    }

    private String run() throws Exception {
        String fault = loadText(random.nextInt(10) == 0);
        int length = calls + 20 + random.nextInt(200);
        while (fault == null && calls < length) {
            int what = random.nextInt(100);
            if (what == 0) {
                fault = loadText(random.nextBoolean());
            } else if (what < 45) {
                fault = call(method(CHANGES.get(random.nextInt(CHANGES.size()))));
            } else {
                fault = call(METHODS.get(random.nextInt(METHODS.size())));
            }
        }
        for (Method m : METHODS) {
            if (fault == null && m.getParameterCount() == 1 && !isChange(m.getName())) {
                fault = sweep(m);
            }
        }
        return fault;
    }

    private static boolean isChange(String name) {
        return CHANGES.contains(name) || NOT_SWEPT.contains(name);
    }

    /** Every small argument of a question at the end of a run. */
    private String sweep(Method m) throws Exception {
        for (int i = -1; i <= 12; i++) {
            String fault = compare(m, i);
            if (fault != null) {
                return fault;
            }
        }
        return null;
    }

    private static Method method(String name) {
        for (Method m : METHODS) {
            if (m.getName().equals(name)) {
                return m;
            }
        }
        throw new IllegalArgumentException(name);
    }

    private String call(Method m) throws Exception {
        Object[] args = new Object[m.getParameterCount()];
        for (int i = 0; i < args.length; i++) {
            args[i] = m.getParameterTypes()[i] == boolean.class ? (Object) random.nextBoolean()
                    : (Object) argument(m.getName(), i);
        }
        return compare(m, args);
    }

    private String compare(Method m, Object... args) throws Exception {
        calls++;
        Object want = answer(GraderModel.class.getMethod(m.getName(), m.getParameterTypes()), model, args);
        Object got = answer(m, grader, args);
        String line = m.getName() + Arrays.toString(args) + " -> " + got;
        log.add(line);
        SEEN.merge(m.getName() + " " + (got instanceof String ? got : got.equals(-1) ? "NONE" : "value"), 1,
                Integer::sum);
        return want.equals(got) ? null : line + ", due is " + want;
    }

    private static Object answer(Method m, Object on, Object[] args) throws Exception {
        try {
            return m.invoke(on, args);
        } catch (InvocationTargetException e) {
            return e.getCause().getClass().getSimpleName();
        }
    }

    // ---- arguments

    private int argument(String name, int i) {
        if (random.nextInt(40) == 0) {
            int[] odd = {-1, Integer.MIN_VALUE, Integer.MAX_VALUE, 100, 101, 61, 13, 1000000, 30001, 10000, 20001, 0};
            return odd[random.nextInt(odd.length)];
        }
        return wide ? wideArgument(name, i) : usualArgument(name, i);
    }

    /** Amounts from the whole of their bounds; the rest as usual. */
    private int wideArgument(String name, int i) {
        switch (name) {
            case "addItem":
                return i == 0 ? maker.wide(0, 20000) : i == 1 ? maker.wide(1, 9999)
                        : i == 2 ? species() : maker.wide(1, 99);
            case "setLimit":
                return maker.wide(0, 9999);
            case "setTarget":
                return i == 0 ? species() : maker.wide(1, 30000);
            case "moveQuota":
                return i < 2 ? species() : maker.wide(1, 999999);
            case "bestMove":
                return i == 0 ? maker.wide(1, 999999) : maker.wide(1, 100);
            case "isStopped":
                return maker.wide(1, 1100);
            default:
                return usualArgument(name, i);
        }
    }

    private int usualArgument(String name, int i) {
        switch (name) {
            case "append":
                return random.nextInt();
            case "load":
                return random.nextInt(40);
            case "advance":
                return 1 + random.nextInt(random.nextInt(8) == 0 ? 100 : 12);
            case "bestLimit":
                return 1 + random.nextInt(60);
            case "closedIn", "giveawayIn", "firstLate", "bestRule":
                return 1 + random.nextInt(100);
            case "firstClosed":
                return i == 0 ? species() : 1 + random.nextInt(100);
            case "bestMove":
                return i == 0 ? 1 + random.nextInt(300) : 1 + random.nextInt(100);
            case "combination", "combine", "content", "itemsIn":
                return i == 0 ? species() : random.nextInt(3);
            case "lookahead":
                return i == 0 ? species() : i == 1 ? random.nextInt(3) : 1 + random.nextInt(12);
            case "release":
                return i == 0 ? random.nextInt(1 + model.pooled()) : random.nextInt(3);
            case "addItem":
                return i == 0 ? random.nextInt(200) : i == 1 ? 50 + random.nextInt(100)
                        : i == 2 ? species() : 1 + random.nextInt(20);
            case "setRule":
                return random.nextInt(3);
            case "setLimit":
                return random.nextInt(60);
            case "setTarget":
                return i == 0 ? species() : 1 + random.nextInt(300);
            case "moveQuota":
                return i < 2 ? species() : 1 + random.nextInt(300);
            case "isStopped":
                return 1 + random.nextInt(60);
            case "labelByte":
                return random.nextInt(60);
            case "weight", "speciesOf", "stateOf", "boxOf", "agreement":
                return random.nextInt(Math.max(1, model.items() + 1));
            case "score":
                return i == 0 ? random.nextInt(Math.max(1, model.items() + 1)) : species();
            case "closedSpecies", "closedWeight", "giveaway", "closedAt", "icedAt", "nextIced", "worstBox", "label":
                return random.nextInt(Math.max(1, model.closed() + 1));
            case "poolItem":
                return random.nextInt(1 + model.pooled());
            default:
                return species();
        }
    }

    private int species() {
        int count = Math.max(1, model.speciesCount());
        return random.nextInt(12) == 0 ? count : random.nextInt(count);
    }

    // ---- texts

    private String loadText(boolean spoiled) throws Exception {
        String text = wide ? maker.wideText() : maker.text();
        if (spoiled) {
            text = spoil(text);
        }
        if (model.buffered() > 0) {
            String fault = compare(method("load"), 0);
            if (fault != null) {
                return fault;
            }
        }
        log.add("text: " + text);
        while (text.length() % 20 != 0 || text.isEmpty()) {
            text += " ";
        }
        for (int i = 0; i + 20 <= text.length(); i += 20) {
            Object[] words = new Object[5];
            for (int k = 0; k < 5; k++) {
                int w = 0;
                for (int j = 0; j < 4; j++) {
                    w = w << 8 | text.charAt(i + 4 * k + j) & 255;
                }
                words[k] = w;
            }
            String fault = compare(method("append"), words);
            if (fault != null) {
                return fault;
            }
        }
        int cut = random.nextInt(30) == 0 ? random.nextInt(100) : 0;
        for (Object[] c : new Object[][] {{"load", Math.max(0, model.buffered() - cut)}, {"parseError"},
                {"errorPosition"}, {"buffered"}}) {
            String fault = compare(method((String) c[0]), Arrays.copyOfRange(c, 1, c.length));
            if (fault != null) {
                return fault;
            }
        }
        SEEN.merge("parse error " + model.parseError(), 1, Integer::sum);
        return null;
    }

    private String spoil(String text) {
        String[] bits = {"grader", "reference", "margin", "limit", "pool", "ice", "stop", "species", "target", "quota",
            "boxes", "price", "item", "and", "vote", "cod", "ling", "x", ";", "0", "1", "7", "99", "100", "9999",
            "10000", "000005", "0000005", "1234567", "abcdefghi", "abcdefghij", "!", "A", "\u00e9", "\0", "-1", " ",
            "item 5 5", ";item 5 5 vote cod 5", ";stop 1 2", ";ice 1 2 3 4 5", "and 5 5", "vote cod 5"};
        String bit = bits[random.nextInt(bits.length)];
        if (text.isEmpty()) {
            return bit;
        }
        int at = random.nextInt(text.length());
        switch (random.nextInt(7)) {
            case 5:
                return manyLines(text);
            case 6: {
                String[] lines = text.split(";");
                return lines[0] + (random.nextBoolean() ? "" : ";item 5 5") + " ".repeat(random.nextInt(3));
            }
            case 0:
                return text.substring(0, at) + bit + text.substring(at);
            case 1:
                return text.substring(0, at) + text.substring(at + 1);
            case 2: {
                String[] words = text.split(" ");
                words[random.nextInt(words.length)] = bit;
                return String.join(" ", words);
            }
            case 3: {
                List<String> words = new ArrayList<>(List.of(text.split(" ")));
                words.add(random.nextInt(words.size()), bit);
                return String.join(" ", words);
            }
            default:
                return text.substring(0, at);
        }
    }

    /** Too many lines of a kind, samples or votes; or nearly too many. */
    private String manyLines(String text) {
        String[] lines = text.split(";");
        List<String> all = new ArrayList<>(List.of(lines[0]));
        String name = lines.length > 1 && lines[lines.length - 1].contains("vote ")
                ? lines[lines.length - 1].replaceAll(".*vote ([a-z]*).*", "$1") : "cod";
        for (String line : lines) {
            if (line.startsWith("species")) {
                all.add(line);
            }
        }
        int count = 1 + random.nextInt(7);
        switch (random.nextInt(5)) {
            case 0 -> all.addAll(Collections.nCopies(57 + count, "item 5 5"));
            case 1 -> all.addAll(Collections.nCopies(count, "stop 5 5"));
            case 2 -> {
                for (int i = 0; i < count; i++) {
                    all.add("species q" + (random.nextInt(4) == 0 ? "" : "abcdefgh".charAt(i))
                            + " target 5 quota 50 boxes 1 price 3");
                }
            }
            case 3 -> all.add("item 5 5" + " and 5 5".repeat(count));
            default -> all.add("item 5 5" + (" vote " + name + " 5").repeat(count));
        }
        return String.join(";", all);
    }
}
