import java.lang.reflect.InvocationTargetException;
import java.lang.reflect.Method;
import java.util.ArrayList;
import java.util.Arrays;
import java.util.HashMap;
import java.util.List;
import java.util.Map;

/**
 * Each "Throws" of the promises and section 8: which exception comes, the one listed first if several apply, and that
 * the refused call changes nothing, neither what can be read nor what can be undone or restored.
 */
public final class RefusedCallsTest {
    private static final String STATE = "IllegalStateException";
    private static final String INDEX = "IndexOutOfBoundsException";
    private static final String ARGUMENT = "IllegalArgumentException";
    // Persons 0 and 1 taste, 2 cooks both pancakes; each object here stays under 512 calls.
    private static final String BASE = "panel 100 1;person a 1;person b 2;person c 3;taster a 2 1 2 3 4;"
        + "taster b 1 4 3 2 1;pancake 0 c;pancake 3 c;seat b 1;seat a 1;score a 1 9;score b 1 4";
    private static final int PERSONS = 3;
    private static final int PANCAKES = 2;
    // The methods whose arguments are numbers: P of a person, K of a pancake; C of one of the cooks of pancake 0,
    // S of one of the seats of pancake 1, T of a topic, R a rank, L a slot, and lower-case letters for values.
    private static final String[] METHODS = {"pancakeCount", "topicOf K", "cookCount K", "cookAt KC", "personCount",
        "nameLetter Pi", "kitchenOf P", "isTaster P", "limitOf P", "tasteOf PT", "bidOf PK", "preference PK",
        "conflict PK", "conflictCount K", "favoriteOf P", "seatCount K", "seatAt KS", "loadOf P", "refusal PK",
        "bestTaster K", "lacking", "lackingAfterFilling", "scoreOf PK", "scoreCount K", "meanOf P", "harshest",
        "disagreement P", "adjustedScore PK", "totalOf K", "spreadOf K", "needsTalk K", "spreadAfterTalk K",
        "rankOf K", "pancakeAt R", "isAccepted K", "fillCount", "moveCount", "talkCount", "changeCount",
        "averageScore", "seatShare", "imbalance", "writePancake K", "writeBids P", "bid PKb", "assign PK",
        "unassign PK", "fill", "score PKs", "talk K", "declare PKd", "saveState L"};
    private static final int[] NEVER = {-1, Integer.MIN_VALUE, Integer.MAX_VALUE, -256, 256, 65536, 1 << 30};
    private static final Map<String, Method> FACE = new HashMap<>();

    private RefusedCallsTest() {
    }

    public static void main(String[] args) {
        for (Method method : PancakePanel.class.getDeclaredMethods()) {
            FACE.put(method.getName(), method);
        }
        withoutSetup();
        afterInvalidSetup();
        numbersThatAreNot();
        indexBeforeArgument();
        bids();
        seats();
        scores();
        talks();
        slots();
        setups();
        undoing();
        outputs();
        Check.finish();
    }

    // ---- calls

    private static PancakePanel busy() {
        PancakePanel panel = new PancakePanel();
        Check.refused("an invalid setup", () -> Panels.parse(panel, "panel 0 0;?"));
        Panels.parse(panel, BASE);
        panel.saveState(0);
        panel.bid(0, 0, 2);
        panel.score(1, 1, 1);
        panel.writeBids(0);
        panel.append(1, 2, 3, 4, 5);
        return panel;
    }

    private static String thrown(PancakePanel panel, String name, int... numbers) {
        Method method = FACE.get(name);
        Object[] values = new Object[numbers.length];
        for (int i = 0; i < values.length; i++) {
            boolean isTruth = method.getParameterTypes()[i] == boolean.class;
            values[i] = isTruth ? (Object) (numbers[i] != 0) : (Object) numbers[i];
        }
        try {
            method.invoke(panel, values);
            return "nothing";
        } catch (InvocationTargetException e) {
            return e.getCause().getClass().getSimpleName();
        } catch (IllegalAccessException e) {
            throw new AssertionError(e);
        }
    }

    /** A panel that refused a call goes on like its twin that was never asked. */
    private static void refuses(String due, String name, int... numbers) {
        String what = name + Arrays.toString(numbers);
        PancakePanel panel = busy();
        PancakePanel twin = busy();
        Check.same(what + " throws", thrown(panel, name, numbers), due);
        Check.same("after " + what, Snapshot.of(panel), Snapshot.of(twin));
        Check.same("undo after " + what, panel.undo(), twin.undo());
        Check.same("undone after " + what, Snapshot.ofPanel(panel), Snapshot.ofPanel(twin));
        Check.same("restored after " + what, panel.restoreState(0), twin.restoreState(0));
        Check.noPanel("slot 1 after " + what, () -> panel.restoreState(1));
    }

    // ---- the arguments of the table above

    private static String nameOf(String method) {
        return method.split(" ")[0];
    }

    private static String kindsOf(String method) {
        return method.contains(" ") ? method.split(" ")[1] : "";
    }

    /** The first number that is too great for a kind; 0 for a value, which has no bound of this sort. */
    private static int countOf(char kind) {
        switch (kind) {
            case 'P': return PERSONS;
            case 'K': case 'S': case 'R': case 'L': return PANCAKES;
            case 'C': return 1;
            case 'T': return 4;
            default: return 0;
        }
    }

    private static int[] fitting(String kinds) {
        int[] numbers = new int[kinds.length()];
        for (int i = 0; i < numbers.length; i++) {
            // Seats are at pancake 1, which is the last of each kind but for the cooks.
            boolean isLast = kinds.indexOf('S') >= 0 && kinds.charAt(i) == 'K';
            numbers[i] = isLast ? 1 : 0;
        }
        return numbers;
    }

    private static List<Integer> outside(char kind) {
        List<Integer> numbers = new ArrayList<>();
        if (countOf(kind) > 0) {
            numbers.add(countOf(kind));
            for (int number : NEVER) {
                numbers.add(number);
            }
        }
        return numbers;
    }

    // ---- "if no setup has been loaded"

    private static void withoutSetup() {
        PancakePanel panel = new PancakePanel();
        String before = Snapshot.of(panel);
        for (String method : METHODS) {
            int[] numbers = fitting(kindsOf(method));
            Check.same(method + " without a setup", thrown(panel, nameOf(method), numbers), STATE);
            Arrays.fill(numbers, -1);
            Check.same(method + " of -1 without a setup", thrown(panel, nameOf(method), numbers), STATE);
            Arrays.fill(numbers, 99);
            Check.same(method + " of 99 without a setup", thrown(panel, nameOf(method), numbers), STATE);
        }
        Check.same("a new object after all", Snapshot.of(panel), before);
        Panels.parse(panel, BASE);
        Check.same("its first panel", Snapshot.of(panel), Snapshot.of(Panels.of(BASE)));
    }

    private static void afterInvalidSetup() {
        PancakePanel panel = new PancakePanel();
        Check.refused("a setup with a late error", () -> Panels.parse(panel, BASE + ";fill;talk 7"));
        for (String method : METHODS) {
            Check.same(method + " after an invalid setup", thrown(panel, nameOf(method), fitting(kindsOf(method))),
                STATE);
        }
        Check.same("undo", thrown(panel, "undo"), STATE);
        Check.same("restoreState", thrown(panel, "restoreState", 0), STATE);
        Check.same("outputByte", thrown(panel, "outputByte", 0), INDEX);
        Check.same("undoCount", panel.undoCount(), 0);
    }

    // ---- "if there is no such .."

    private static void numbersThatAreNot() {
        for (String method : METHODS) {
            String kinds = kindsOf(method);
            for (int place = 0; place < kinds.length(); place++) {
                for (int number : outside(kinds.charAt(place))) {
                    int[] numbers = fitting(kinds);
                    numbers[place] = number;
                    refuses(INDEX, nameOf(method), numbers);
                }
                lastOfAKind(method, place);
            }
        }
    }

    private static void lastOfAKind(String method, int place) {
        char kind = kindsOf(method).charAt(place);
        if (countOf(kind) > 0 && "bid assign unassign score talk".indexOf(nameOf(method)) < 0) {
            int[] numbers = fitting(kindsOf(method));
            numbers[place] = countOf(kind) - 1;
            Check.same(method + " of the last", thrown(busy(), nameOf(method), numbers), "nothing");
        }
    }

    /** "the exception that is listed first": a wrong number and a wrong value at once. */
    private static void indexBeforeArgument() {
        for (int number : new int[] {-1, 99, Integer.MIN_VALUE, Integer.MAX_VALUE}) {
            refuses(INDEX, "bid", number, 0, 4);
            refuses(INDEX, "bid", 2, number, -1);
            refuses(INDEX, "bid", number, number, number);
            refuses(INDEX, "assign", number, number);
            refuses(INDEX, "assign", 2, number);
            refuses(INDEX, "unassign", number, number);
            refuses(INDEX, "unassign", 2, number);
            refuses(INDEX, "score", number, 0, 0);
            refuses(INDEX, "score", 2, number, 10);
            refuses(INDEX, "score", number, number, number);
            refuses(INDEX, "declare", number, number, 1);
        }
    }

    // ---- IllegalArgumentException, and both sides of its bounds

    private static void bids() {
        for (int bid = 0; bid <= 3; bid++) {
            Check.same("bid " + bid, thrown(busy(), "bid", 0, 0, bid), "nothing");
            refuses(ARGUMENT, "bid", 2, 0, bid);
        }
        for (int bid : new int[] {-1, 4, 256, Integer.MIN_VALUE, Integer.MAX_VALUE}) {
            refuses(ARGUMENT, "bid", 0, 0, bid);
            refuses(ARGUMENT, "bid", 2, 1, bid);
        }
    }

    private static void seats() {
        refuses(ARGUMENT, "assign", 2, 0);
        refuses(ARGUMENT, "assign", 0, 1);
        refuses(ARGUMENT, "assign", 1, 0);
        Check.same("assign", thrown(busy(), "assign", 0, 0), "nothing");
        refuses(ARGUMENT, "unassign", 0, 0);
        refuses(ARGUMENT, "unassign", 1, 0);
        refuses(ARGUMENT, "unassign", 2, 1);
        Check.same("unassign", thrown(busy(), "unassign", 1, 1), "nothing");
        String full = "panel 0 0;person a 1;person b 2;person c 3;person d 4;person x 5;taster a 6 0 0 0 0;"
            + "taster b 6 0 0 0 0;taster c 6 0 0 0 0;taster d 6 0 0 0 0;pancake 0 x;seat a 0;seat b 0";
        PancakePanel panel = Panels.of(full);
        Check.same("assign the third", panel.assign(2, 0), 3);
        Check.same("reason 4", panel.refusal(3, 0), 4);
        Check.refused("assign the fourth", () -> panel.assign(3, 0));
        Check.same("three seats", Panels.seats(panel, 0), "0,1,2");
        Check.same("one change", panel.undoCount(), 1);
        PancakePanel declared = Panels.of(full + ";conflict c 0");
        Check.refused("assign with a declared conflict", () -> declared.assign(2, 0));
        Check.same("two seats", Panels.seats(declared, 0), "0,1");
    }

    private static void scores() {
        for (int score = 1; score <= 9; score++) {
            Check.same("score " + score, thrown(busy(), "score", 0, 1, score), "nothing");
        }
        for (int score : new int[] {0, 10, -1, 256, 257, Integer.MIN_VALUE, Integer.MAX_VALUE}) {
            refuses(ARGUMENT, "score", 0, 1, score);
            refuses(ARGUMENT, "score", 0, 0, score);
        }
        refuses(ARGUMENT, "score", 0, 0, 5);
        refuses(ARGUMENT, "score", 1, 0, 5);
        refuses(ARGUMENT, "score", 2, 1, 5);
    }

    private static void talks() {
        refuses(ARGUMENT, "talk", 0);
        Check.same("talk of two", thrown(busy(), "talk", 1), "nothing");
        PancakePanel panel = busy();
        panel.unassign(0, 1);
        Check.refused("talk of one", () -> panel.talk(1));
        Check.same("no talk is counted", panel.talkCount(), 0);
    }

    // ---- the others

    private static void slots() {
        for (int slot : new int[] {-1, 2, 3, 256, Integer.MIN_VALUE, Integer.MAX_VALUE}) {
            refuses(INDEX, "saveState", slot);
            refuses(INDEX, "restoreState", slot);
            Check.same("restoreState of a new object", thrown(new PancakePanel(), "restoreState", slot), INDEX);
            Check.same("saveState of a new object", thrown(new PancakePanel(), "saveState", slot), STATE);
        }
        refuses(STATE, "restoreState", 1);
    }

    private static void setups() {
        for (int length : new int[] {-1, 21, 500, 501, Integer.MIN_VALUE, Integer.MAX_VALUE}) {
            refuses(INDEX, "parseSetup", length);
        }
        PancakePanel panel = new PancakePanel();
        Check.refused("an error", () -> Panels.parse(panel, "panel 0 11"));
        panel.append(0, 0, 0, 0, 0);
        Check.outside("a length beyond the buffer", () -> panel.parseSetup(21));
        Check.same("the latest error stays", panel.parseErrorCode() * 100 + panel.parseErrorPosition(), 208);
        Check.same("the buffer stays", panel.bufferLength(), 20);
        PancakePanel invalid = busy();
        PancakePanel twin = busy();
        Check.refused("the buffer of busy", () -> invalid.parseSetup(20));
        Check.same("the panel stays", Snapshot.ofPanel(invalid), Snapshot.ofPanel(twin));
        Check.same("the output stays", Snapshot.output(invalid), Snapshot.output(twin));
        Check.same("the buffer is empty", invalid.bufferLength(), 0);
        Check.same("undo goes on", invalid.undo(), twin.undo());
        Check.same("restore goes on", invalid.restoreState(0), twin.restoreState(0));
    }

    private static void undoing() {
        PancakePanel panel = Panels.of(BASE);
        String before = Snapshot.of(panel);
        Check.noPanel("undo of nothing", panel::undo);
        Check.same("after it", Snapshot.of(panel), before);
        Check.noPanel("undo of a new object", new PancakePanel()::undo);
    }

    private static void outputs() {
        // The bids of person 0 are written by busy: 2 and, with a seat, 0 and a star.
        Check.same("the last byte", busy().outputByte(2), '*');
        for (int index : new int[] {-1, 3, 256, Integer.MIN_VALUE, Integer.MAX_VALUE}) {
            refuses(INDEX, "outputByte", index);
        }
    }
}
