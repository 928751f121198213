import java.lang.reflect.Constructor;
import java.lang.reflect.Field;
import java.lang.reflect.Method;
import java.lang.reflect.Modifier;
import java.util.Set;
import java.util.TreeSet;

/** The public face, and for every method which exception comes first. */
public final class FaceTest {
    private static final String STATE = "IllegalStateException";
    private static final String INDEX = "IndexOutOfBoundsException";
    private static final String ARGUMENT = "IllegalArgumentException";
    private static final String[] PERSON_METHODS = {"kitchenOf", "isTaster", "limitOf", "favoriteOf", "loadOf",
        "meanOf", "disagreement", "writeBids"};
    private static final String[] PANCAKE_METHODS = {"topicOf", "cookCount", "conflictCount", "seatCount",
        "bestTaster", "scoreCount", "totalOf", "spreadOf", "needsTalk", "spreadAfterTalk", "rankOf",
        "isAccepted", "writePancake"};
    private static final String[] PAIR_METHODS = {"bidOf", "preference", "conflict", "refusal", "scoreOf",
        "adjustedScore"};
    private static final String[] BARE_METHODS = {"pancakeCount", "personCount", "lacking",
        "lackingAfterFilling", "harshest", "fillCount", "moveCount", "talkCount", "changeCount",
        "averageScore", "seatShare", "imbalance", "fill"};
    private static final int[] EXTREMES = {Integer.MIN_VALUE, Integer.MAX_VALUE, -1, 1 << 30};

    public static void main(String[] args) throws ReflectiveOperationException {
        members();
        constants();
        withoutPanel();
        withoutPersons();
        numbersOutside();
        order();
        Check.finish();
    }

    private static void members() {
        Set<String> found = new TreeSet<>();
        for (Method method : PancakePanel.class.getDeclaredMethods()) {
            if (Modifier.isPublic(method.getModifiers())) {
                found.add(signature(method));
            } else if (!method.isSynthetic()) {
                Check.isTrue(method.getName() + " is private", Modifier.isPrivate(method.getModifiers()));
            }
        }
        Check.same("public methods", String.join("\n", found), String.join("\n", new TreeSet<>(Set.of(FACE))));
        Constructor<?>[] constructors = PancakePanel.class.getDeclaredConstructors();
        Check.same("constructors", constructors.length, 1);
        Check.isTrue("the constructor is public", Modifier.isPublic(constructors[0].getModifiers()));
        Check.isTrue("the class is final", Modifier.isFinal(PancakePanel.class.getModifiers()));
        int constants = 0;
        for (Field field : PancakePanel.class.getDeclaredFields()) {
            if (!Modifier.isPrivate(field.getModifiers()) && !field.isSynthetic()) {
                constants++;
            }
        }
        Check.same("fields that are not private", constants, 5);
    }

    private static String signature(Method method) {
        StringBuilder text = new StringBuilder(method.getReturnType().getName());
        text.append(' ').append(method.getName()).append('(');
        for (Class<?> type : method.getParameterTypes()) {
            text.append(type == boolean.class ? 'b' : 'i');
        }
        text.append(')');
        for (Class<?> type : method.getExceptionTypes()) {
            String name = type.getSimpleName();
            text.append(name.equals(STATE) ? 'S' : name.equals(INDEX) ? 'X' : name.equals(ARGUMENT) ? 'A' : '?');
        }
        return text.toString();
    }

    private static void constants() {
        Check.same("NONE", PancakePanel.NONE, -1);
        Check.same("SYNTAX_ERROR", PancakePanel.SYNTAX_ERROR, 1);
        Check.same("RANGE_ERROR", PancakePanel.RANGE_ERROR, 2);
        Check.same("NAME_ERROR", PancakePanel.NAME_ERROR, 3);
        Check.same("LIMIT_ERROR", PancakePanel.LIMIT_ERROR, 4);
    }

    /** The exception of a call, told by its name, with as many of the arguments as it takes. */
    private static String thrown(PancakePanel panel, String name, int... arguments)
            throws ReflectiveOperationException {
        Class<?>[] types = new Class<?>[arguments.length];
        Object[] values = new Object[arguments.length];
        for (int i = 0; i < types.length; i++) {
            types[i] = int.class;
            values[i] = arguments[i];
        }
        Method method = PancakePanel.class.getMethod(name, types);
        try {
            method.invoke(panel, values);
            return "nothing";
        } catch (java.lang.reflect.InvocationTargetException e) {
            return e.getCause().getClass().getSimpleName();
        }
    }

    private static void expect(PancakePanel panel, String due, String name, int... arguments)
            throws ReflectiveOperationException {
        Check.same(name + java.util.Arrays.toString(arguments) + " throws", thrown(panel, name, arguments), due);
    }

    private static void everyMethod(PancakePanel panel, String bare, String due, int number)
            throws ReflectiveOperationException {
        for (String name : BARE_METHODS) {
            expect(panel, bare, name);
        }
        for (String name : PERSON_METHODS) {
            expect(panel, due, name, number);
        }
        for (String name : PANCAKE_METHODS) {
            expect(panel, due, name, number);
        }
        for (String name : PAIR_METHODS) {
            expect(panel, due, name, number, number);
        }
        for (String name : new String[] {"cookAt", "nameLetter", "tasteOf", "seatAt", "assign", "unassign"}) {
            expect(panel, due, name, number, number);
        }
        expect(panel, due, "bid", number, number, 9);
        expect(panel, due, "score", number, number, 0);
        expect(panel, due, "talk", number);
        expect(panel, due, "pancakeAt", number);
        Check.same("declare", Check.thrownBy(() -> panel.declare(number, number, true)), due);
    }

    private static void withoutPanel() throws ReflectiveOperationException {
        PancakePanel panel = new PancakePanel();
        everyMethod(panel, STATE, STATE, 0);
        everyMethod(panel, STATE, STATE, -1);
        expect(panel, STATE, "saveState", 0);
        expect(panel, STATE, "saveState", 5);
        expect(panel, STATE, "undo");
        expect(panel, STATE, "restoreState", 1);
        expect(panel, INDEX, "restoreState", -1);
        expect(panel, INDEX, "outputByte", 0);
        expect(panel, "nothing", "undoCount");
        Check.refused("an invalid setup", () -> Panels.parse(panel, "panel"));
        everyMethod(panel, STATE, STATE, 0);
    }

    private static void withoutPersons() throws ReflectiveOperationException {
        PancakePanel panel = Panels.of("panel 0 10");
        everyMethod(panel, "nothing", INDEX, 0);
        Check.same("lacking nothing", panel.lacking(), 0);
        Check.same("lacking nothing after", panel.lackingAfterFilling(), 0);
        Check.same("harshest of none", panel.harshest(), PancakePanel.NONE);
        Check.same("seatShare of none", panel.seatShare(), 0.0);
        Check.same("averageScore of none", panel.averageScore(), 0.0);
        Check.same("fill of none", panel.fill(), 0);
    }

    private static void numbersOutside() throws ReflectiveOperationException {
        PancakePanel panel = Panels.of("panel 0 1;person a 1;person b 2;taster b 1 1 1 1 1;pancake 0 a;seat b 0");
        for (int extreme : EXTREMES) {
            everyMethod(panel, "nothing", INDEX, extreme);
            for (String name : PAIR_METHODS) {
                expect(panel, INDEX, name, extreme, 0);
                expect(panel, INDEX, name, 0, extreme);
            }
            expect(panel, INDEX, "cookAt", 0, extreme);
            expect(panel, INDEX, "tasteOf", 1, extreme);
            expect(panel, INDEX, "seatAt", 0, extreme);
            expect(panel, "nothing", "nameLetter", 0, extreme);
            expect(panel, INDEX, "outputByte", extreme);
            expect(panel, INDEX, "saveState", extreme);
            expect(panel, INDEX, "restoreState", extreme);
            expect(panel, INDEX, "parseSetup", extreme);
        }
        for (String name : PERSON_METHODS) {
            expect(panel, "nothing", name, 1);
            expect(panel, INDEX, name, 2);
        }
        for (String name : PANCAKE_METHODS) {
            expect(panel, "nothing", name, 0);
            expect(panel, INDEX, name, 1);
        }
        for (String name : PAIR_METHODS) {
            expect(panel, "nothing", name, 1, 0);
            expect(panel, INDEX, name, 2, 0);
            expect(panel, INDEX, name, 1, 1);
        }
    }

    /** Where several exceptions apply, the one listed first is thrown. */
    private static void order() throws ReflectiveOperationException {
        PancakePanel panel = Panels.of("panel 0 1;person a 1;person b 2;taster b 1 1 1 1 1;pancake 0 a");
        expect(panel, INDEX, "bid", 0, 1, 9);
        expect(panel, INDEX, "bid", 2, 0, 9);
        expect(panel, ARGUMENT, "bid", 0, 0, 1);
        expect(panel, INDEX, "assign", 0, 1);
        expect(panel, ARGUMENT, "assign", 0, 0);
        expect(panel, INDEX, "unassign", 1, 1);
        expect(panel, ARGUMENT, "unassign", 1, 0);
        expect(panel, INDEX, "score", 1, 1, 0);
        expect(panel, ARGUMENT, "score", 1, 0, 5);
        expect(panel, INDEX, "talk", 1);
        expect(panel, ARGUMENT, "talk", 0);
        expect(panel, INDEX, "saveState", 2);
        expect(panel, STATE, "restoreState", 0);
        Check.same("no change by refused calls", panel.undoCount(), 0);
    }

    private static final String[] FACE = {
        "int append(iiiii)", "int parseSetup(i)XA", "int parseErrorCode()", "int parseErrorPosition()",
        "int bufferLength()", "int pancakeCount()S", "int topicOf(i)SX", "int cookCount(i)SX",
        "int cookAt(ii)SX", "int personCount()S", "int nameLetter(ii)SX", "int kitchenOf(i)SX",
        "boolean isTaster(i)SX", "int limitOf(i)SX", "int tasteOf(ii)SX", "int bidOf(ii)SX",
        "int preference(ii)SX", "int conflict(ii)SX", "int conflictCount(i)SX", "int favoriteOf(i)SX",
        "int seatCount(i)SX", "int seatAt(ii)SX", "int loadOf(i)SX", "int refusal(ii)SX",
        "int bestTaster(i)SX", "int lacking()S", "int lackingAfterFilling()S", "int scoreOf(ii)SX",
        "int scoreCount(i)SX", "int meanOf(i)SX", "int harshest()S", "int disagreement(i)SX",
        "int adjustedScore(ii)SX", "int totalOf(i)SX", "int spreadOf(i)SX", "boolean needsTalk(i)SX",
        "int spreadAfterTalk(i)SX", "int rankOf(i)SX", "int pancakeAt(i)SX", "boolean isAccepted(i)SX",
        "int fillCount()S", "int moveCount()S", "int talkCount()S", "int changeCount()S",
        "double averageScore()S", "float seatShare()S", "int imbalance()S", "int writePancake(i)SX",
        "int writeBids(i)SX", "int outputByte(i)X", "int bid(iii)SXA", "int assign(ii)SXA",
        "int unassign(ii)SXA", "int fill()S", "int score(iii)SXA", "int talk(i)SXA",
        "boolean declare(iib)SX", "int undo()S", "int undoCount()", "int saveState(i)SX",
        "int restoreState(i)XS"};
}
