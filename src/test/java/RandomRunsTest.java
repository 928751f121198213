import java.lang.reflect.InvocationTargetException;
import java.lang.reflect.Method;
import java.util.ArrayDeque;
import java.util.Deque;
import java.util.HashMap;
import java.util.Map;
import java.util.Random;

/** Runs of calls with chosen seeds, each answer compared with the model's. */
public final class RandomRunsTest {
    private static final int RUNS = 120;
    private static final int CALLS = 512;
    private static final String[] NAMES = {"a", "bo", "cat", "dora", "emil", "fill", "gina", "person", "i", "j",
        "k", "l", "m", "n", "o", "p", "toolong", "abcdefghi", "x"};
    private static final String[] READS = {"pancakeCount", "topicOf", "cookCount", "cookAt", "personCount",
        "nameLetter", "kitchenOf", "isTaster", "limitOf", "tasteOf", "bidOf", "preference", "conflict",
        "conflictCount", "favoriteOf", "seatCount", "seatAt", "loadOf", "refusal", "bestTaster", "lacking",
        "lackingAfterFilling", "scoreOf", "scoreCount", "meanOf", "harshest", "disagreement", "adjustedScore",
        "totalOf", "spreadOf", "needsTalk", "spreadAfterTalk", "rankOf", "pancakeAt", "isAccepted", "fillCount",
        "moveCount", "talkCount", "changeCount", "averageScore", "seatShare", "imbalance", "writePancake",
        "writeBids"};
    private static final String[] PERSON_FIRST = {"nameLetter", "kitchenOf", "isTaster", "limitOf", "tasteOf",
        "bidOf", "preference", "conflict", "favoriteOf", "loadOf", "refusal", "scoreOf", "meanOf", "disagreement",
        "adjustedScore", "writeBids"};
    private static final String[] CHANGES = {"bid", "assign", "assign", "unassign", "fill", "score", "score",
        "score", "score", "talk", "declare"};
    private static final Map<String, Method> METHODS = new HashMap<>();

    private final Random random;
    private final PancakePanel panel = new PancakePanel();
    private final Deque<Model> past = new ArrayDeque<>();
    private final Model[] saved = new Model[2];
    private Model model;
    private int calls;

    private RandomRunsTest(long seed) {
        random = new Random(seed);
    }

    public static void main(String[] args) {
        for (Method method : PancakePanel.class.getDeclaredMethods()) {
            METHODS.put(method.getName(), method);
        }
        int runs = args.length > 0 ? Integer.parseInt(args[0]) : RUNS;
        int from = args.length > 1 ? Integer.parseInt(args[1]) : 0;
        for (int seed = from; seed < from + runs; seed++) {
            new RandomRunsTest(seed).run();
        }
        Check.finish();
    }

    private void run() {
        while (calls < CALLS) {
            int choice = random.nextInt(100);
            if (calls == 0 || choice < 1) {
                load();
            } else if (choice < 45) {
                read(READS[random.nextInt(READS.length)]);
            } else if (choice < 87) {
                change();
            } else if (choice < 93) {
                undo();
            } else {
                keep();
            }
        }
        dump();
    }

    private int pick(String... weights) {
        return Integer.parseInt(weights[random.nextInt(weights.length)]);
    }

    // ---- setups

    private void load() {
        String text = setup();
        calls += (text.length() + 19) / 20 + 3;
        Panels.append(panel, text);
        Check.same("buffer", panel.bufferLength(), (text.length() + 19) / 20 * 20);
        int code = 0;
        int position = -1;
        String due;
        try {
            model = Model.parse(text);
            past.clear();
            saved[0] = null;
            saved[1] = null;
            due = model.call("pancakeCount").toString();
        } catch (Model.SetupError e) {
            code = e.code;
            position = e.position;
            due = "throws.IllegalArgumentException";
        }
        Check.same(text, real("parseSetup", text.length()), due);
        Check.same(text + " code", panel.parseErrorCode(), code);
        Check.same(text + " position", panel.parseErrorPosition(), position);
        Check.same("buffer", panel.bufferLength(), 0);
    }

    /** Items that are possible where they stand, but for one in some fifty. */
    private String setup() {
        StringBuilder text = new StringBuilder("panel " + pick("0", "50", "100", "300", "900") + " " + random.nextInt(11));
        int people = random.nextInt(17);
        for (int i = 0; i < people && text.length() < 200; i++) {
            addItem(text, "person " + NAMES[i] + " " + random.nextInt(random.nextBoolean() ? 10 : 3));
            if (random.nextInt(4) > 0) {
                addItem(text, "taster " + NAMES[i] + " " + (1 + random.nextInt(5)) + randomTastes());
            }
        }
        int cakes = random.nextInt(11);
        for (int i = 0; i < cakes; i++) {
            addItem(text, "pancake " + random.nextInt(4) + " " + name() + (random.nextInt(3) == 0 ? " " + name() : "")
                + (random.nextInt(6) == 0 ? " " + name() : ""));
        }
        for (int i = 0; i < 80 && text.length() < 460; i++) {
            addItem(text, random.nextInt(6) == 0 ? repeat(2) : item());
        }
        if (random.nextInt(12) == 0) {
            text.setCharAt(random.nextInt(text.length()), "; ()a0z9X".charAt(random.nextInt(9)));
        }
        return text.toString();
    }

    private String randomTastes() {
        StringBuilder text = new StringBuilder();
        for (int i = 0; i < 4; i++) {
            text.append(' ').append(random.nextInt(random.nextBoolean() ? 10 : 2));
        }
        return text.toString();
    }

    private void addItem(StringBuilder text, String item) {
        String longer = text + ";" + item;
        if (longer.length() <= 500 && (random.nextInt(60) == 0 || isValid(longer))) {
            text.append(';').append(item);
        }
    }

    private static boolean isValid(String text) {
        try {
            Model.parse(text);
            return true;
        } catch (Model.SetupError e) {
            return false;
        }
    }

    private String name() {
        return NAMES[random.nextInt(random.nextInt(20) == 0 ? NAMES.length : 8)];
    }

    private String repeat(int depth) {
        StringBuilder text = new StringBuilder("repeat " + random.nextInt(random.nextInt(9) == 0 ? 12 : 4) + "(");
        int count = 1 + random.nextInt(3);
        for (int i = 0; i < count; i++) {
            text.append(i == 0 ? "" : ";").append(depth > 0 && random.nextInt(3) == 0 ? repeat(depth - 1) : item());
        }
        return text.append(')').toString();
    }

    private String item() {
        String cake = " " + random.nextInt(random.nextInt(20) == 0 ? 11 : 6);
        switch (random.nextInt(20)) {
            case 0: return "bid " + name() + cake + " " + random.nextInt(5);
            case 1: return "together " + name() + " " + name();
            case 2: return "conflict " + name() + cake;
            case 3: case 4: case 5: return "seat " + name() + cake;
            case 6: return random.nextInt(3) == 0 ? "fill" : "score " + name() + cake + " " + random.nextInt(11);
            case 7: return "leave " + name() + cake;
            case 8: case 9: case 10: return "score " + name() + cake + " " + random.nextInt(11);
            case 11: return "talk" + cake;
            case 12: return "limit " + name() + " " + random.nextInt(8);
            case 13: return "kitchen " + name() + " " + random.nextInt(11);
            case 14: return "swap" + cake + " " + random.nextInt(4);
            case 15: return "clear" + cake;
            case 16: return "even" + cake;
            case 17: return "copy " + name() + " " + name();
            case 18: return "person " + name() + " " + random.nextInt(10);
            default: return "score " + name() + cake + " 9;" + "score " + name() + cake + " 1;talk" + cake;
        }
    }

    // ---- calls

    /** What the program answers, or throws. */
    private String real(String name, int... arguments) {
        Method method = METHODS.get(name);
        Object[] values = new Object[method.getParameterCount()];
        for (int i = 0; i < values.length; i++) {
            values[i] = arguments[i];
            if (method.getParameterTypes()[i] == boolean.class) {
                values[i] = arguments[i] == 1;
            }
        }
        try {
            return String.valueOf(method.invoke(panel, values));
        } catch (InvocationTargetException e) {
            return "throws." + e.getCause().getClass().getSimpleName();
        } catch (IllegalAccessException e) {
            throw new AssertionError(e);
        }
    }

    private String due(Model on, String name, int... arguments) {
        if (on == null) {
            return "throws.IllegalStateException";
        }
        try {
            return on.call(name, arguments).toString();
        } catch (IndexOutOfBoundsException e) {
            return "throws.IndexOutOfBoundsException";
        } catch (IllegalArgumentException e) {
            return "throws.IllegalArgumentException";
        }
    }

    private int number(int bound) {
        return random.nextInt(25) == 0 ? pick("-1", "16", "10", "2147483647", "-2147483648") : random.nextInt(bound);
    }

    private void read(String name) {
        calls++;
        boolean isPersonFirst = java.util.Arrays.asList(PERSON_FIRST).contains(name);
        int size = model == null ? 5 : (int) model.call(isPersonFirst ? "personCount" : "pancakeCount") + 1;
        int other = model == null ? 5 : (int) model.call("pancakeCount") + 1;
        int second = name.equals("tasteOf") || name.equals("cookAt") || name.equals("seatAt") ? 4 : other;
        compare(name, number(size), number(second), 0);
    }

    private void compare(String name, int... arguments) {
        String what = name + java.util.Arrays.toString(arguments);
        String due = due(model, name, arguments);
        String got = real(name, arguments);
        if (!name.startsWith("write") || due.startsWith("throws.")) {
            Check.same(what, got, due);
            return;
        }
        Check.same(what + " length", got, "" + due.length());
        StringBuilder text = new StringBuilder();
        for (int i = 0; i < due.length(); i++) {
            text.append((char) Integer.parseInt(real("outputByte", i)));
        }
        Check.same(what, text.toString(), due);
        Check.outside("behind the output", () -> panel.outputByte(due.length()));
    }

    private void change() {
        calls++;
        String name = CHANGES[random.nextInt(CHANGES.length)];
        int people = model == null ? 5 : (int) model.call("personCount") + 1;
        int cakes = model == null ? 5 : (int) model.call("pancakeCount") + 1;
        int first = number(name.equals("talk") ? cakes : people);
        int third = name.equals("bid") ? random.nextInt(5) : name.equals("score") ? random.nextInt(11) : random.nextInt(2);
        int[] arguments = {first, number(cakes), third};
        if (random.nextInt(4) > 0) {
            chooseSeat(name, arguments);
        }
        Model before = model == null ? null : model.copy();
        String due = due(model, name, arguments);
        Check.same(name + java.util.Arrays.toString(arguments), real(name, arguments), due);
        if (!due.startsWith("throws.")) {
            past.addLast(before);
            if (past.size() > 8) {
                past.removeFirst();
            }
        }
        Check.same("undoCount", panel.undoCount(), past.size());
    }

    /** Lets a call that needs a seat or scores meet one, if there is one. */
    private void chooseSeat(String name, int[] arguments) {
        int cakes = model == null ? 0 : (int) model.call("pancakeCount");
        for (int i = 0; i < 10 && cakes > 0; i++) {
            int cake = random.nextInt(cakes);
            int seats = (int) model.call("seatCount", cake);
            if (name.equals("talk") && (int) model.call("scoreCount", cake) > 1) {
                arguments[0] = cake;
            } else if ((name.equals("score") || name.equals("unassign")) && seats > 0) {
                arguments[0] = (int) model.call("seatAt", cake, random.nextInt(seats));
                arguments[1] = cake;
            }
        }
    }

    private void undo() {
        calls++;
        if (past.isEmpty()) {
            Check.same("undo of nothing", real("undo"), "throws.IllegalStateException");
        } else {
            model = past.removeLast();
            Check.same("undo", real("undo"), "" + past.size());
        }
    }

    private void keep() {
        calls++;
        int slot = random.nextInt(20) == 0 ? pick("-1", "2", "99") : random.nextInt(2);
        boolean isSlot = slot == 0 || slot == 1;
        if (random.nextBoolean()) {
            String due = model == null ? "throws.IllegalStateException"
                : isSlot ? "" + model.scoreCount() : "throws.IndexOutOfBoundsException";
            Check.same("saveState", real("saveState", slot), due);
            if (model != null && isSlot) {
                saved[slot] = model.copy();
            }
        } else if (!isSlot) {
            Check.same("restoreState", real("restoreState", slot), "throws.IndexOutOfBoundsException");
        } else if (saved[slot] == null) {
            Check.same("restoreState", real("restoreState", slot), "throws.IllegalStateException");
        } else {
            model = saved[slot].copy();
            past.clear();
            Check.same("restoreState", real("restoreState", slot), "" + model.scoreCount());
        }
    }

    /** Every reading, of every person and pancake and one beyond. */
    private void dump() {
        for (String name : READS) {
            for (int first = -1; first <= 16; first++) {
                int last = METHODS.get(name).getParameterCount() > 1 ? 10 : 0;
                for (int second = 0; second <= last; second++) {
                    compare(name, first, second);
                }
            }
        }
    }
}
