import java.lang.reflect.Method;
import java.util.ArrayList;
import java.util.Arrays;
import java.util.HashMap;
import java.util.List;
import java.util.Map;

/**
 * A run of calls on a new object, each told as a text: "supply 0 -1 = REFUSED 8" calls
 * supply(0, -1), for which REFUSED is due, and 8 as the reason. Where no answer is told, any but an
 * error is due. "text close 0" types a text in place of the one that is there; "mark" remembers the
 * state, "same" compares it with the marked one.
 *
 * <p>Each run is made once more without its calls for which an error or NONE is due, and without
 * those that only tell: then the state, the history and the slots have to be the same.
 */
final class Script {
    private static final int MOST_CALLS = 512;
    private static final int HISTORY = 5;
    /** No act answers so little, but for an error: the faults of texts begin here. */
    private static final int LEAST_ERROR = -100;
    private static final List<String> TELLING = Arrays.asList(
            "reach", "chamber", "lying", "barge", "margin", "flow", "account", "count");
    private static final Map<String, Long> NAMED = new HashMap<>();
    private static final Map<String, Method> METHODS = new HashMap<>();

    static {
        NAMED.put("UNKNOWN", -100000001L);
        NAMED.put("BAD_VALUE", -100000002L);
        NAMED.put("REFUSED", -100000003L);
        NAMED.put("FULL", -100000004L);
        NAMED.put("NONE", -100000005L);
        NAMED.put("MIN", (long) Integer.MIN_VALUE);
        NAMED.put("MAX", (long) Integer.MAX_VALUE);
        for (Method each : BargeLocks.class.getDeclaredMethods()) {
            METHODS.put(each.getName(), each);
        }
    }

    private final List<String> lines;
    private final List<String> faults = new ArrayList<>();
    private BargeLocks built = new BargeLocks();
    private int calls = 0;
    private String marked = "";

    private Script(List<String> lines) {
        this.lines = lines;
    }

    /** The faults of a run of these lines; none if it is right. */
    static List<String> faultsOf(List<String> lines) {
        Script script = new Script(lines);
        for (String line : lines) {
            script.carryOut(line);
        }
        if (script.faults.isEmpty()) {
            script.compareWithPlainRun();
        }
        return script.faults;
    }

    private void carryOut(String line) {
        if (line.equals("mark")) {
            marked = state();
        } else if (line.equals("same")) {
            check("the state", state(), marked);
        } else {
            answer(line);
        }
    }

    private void answer(String line) {
        String[] parts = line.split(" = ");
        long got = make(parts[0]);
        if (parts.length == 1) {
            check(line + " is an error", NAMED.containsValue(got) ? 1 : 0, 0);
            return;
        }
        String[] want = parts[1].split(" ");
        check(parts[0], got, number(want[0]));
        if (want.length == 2) {
            check("the reason of " + parts[0], ask("count", 7), number(want[1]));
        }
    }

    private void check(String what, Object got, Object want) {
        if (!got.toString().equals(want.toString())) {
            faults.add(what + " answered " + got + ", due is " + want);
        }
    }

    private static long number(String told) {
        return NAMED.containsKey(told) ? NAMED.get(told) : Long.parseLong(told);
    }

    /** Makes the call that a text tells. */
    private long make(String told) {
        if (told.startsWith("text ")) {
            ask("clearText");
            for (char each : told.substring("text ".length()).toCharArray()) {
                ask("type", each);
            }
            return 0;
        }
        String[] words = told.split(" ");
        long[] arguments = new long[words.length - 1];
        for (int i = 0; i < arguments.length; i++) {
            arguments[i] = number(words[i + 1]);
        }
        return ask(words[0], arguments);
    }

    private long ask(String name, long... arguments) {
        calls++;
        if (calls > MOST_CALLS) {
            throw new IllegalStateException("more calls than are promised: " + lines);
        }
        Method method = METHODS.get(name);
        Object[] given = new Object[arguments.length];
        for (int i = 0; i < given.length; i++) {
            boolean character = method.getParameterTypes()[i] == char.class;
            given[i] = character ? (Object) (char) arguments[i] : (Object) (int) arguments[i];
        }
        try {
            return ((Number) method.invoke(built, given)).longValue();
        } catch (ReflectiveOperationException thrown) {
            throw new IllegalStateException("in " + lines, thrown);
        }
    }

    private void tell(StringBuilder told, String name, int number, int properties) {
        told.append("| ").append(name).append(' ');
        for (int what = 0; what < properties; what++) {
            told.append(ask(name, number, what)).append(' ');
        }
    }

    /** All that is told of the state: what undo() and restore() bring back. */
    private String state() {
        StringBuilder told = new StringBuilder();
        for (int what = 0; what <= 6; what++) {
            told.append(ask("count", what)).append(' ').append(ask("account", what)).append(' ');
        }
        for (int i = 0; i < ask("count", 0); i++) {
            tell(told, "reach", i, 6);
        }
        for (int i = 0; i < ask("count", 1); i++) {
            tell(told, "chamber", i, 13);
            tell(told, "lying", i, (int) ask("chamber", i, 3));
        }
        for (int i = 0; i < ask("count", 2); i++) {
            tell(told, "barge", i, 9);
        }
        return told.toString();
    }

    // ---- the same run without what may not change anything

    private void compareWithPlainRun() {
        for (int undone = 0; undone <= HISTORY; undone++) {
            String when = "behind the run and " + undone + " undo(), all with and without errors:";
            check(when, ending(lines, undone, -1), ending(plainLines(), undone, -1));
        }
        for (int slot = 0; slot <= 1; slot++) {
            String when = "behind the run and restore(" + slot + "), all with and without errors:";
            check(when, ending(lines, 0, slot), ending(plainLines(), 0, slot));
        }
    }

    private List<String> plainLines() {
        List<String> plain = new ArrayList<>();
        for (String line : lines) {
            String[] parts = line.split(" = ");
            boolean error = parts.length == 2 && number(parts[1].split(" ")[0]) <= LEAST_ERROR;
            if (!error && !TELLING.contains(parts[0].split(" ")[0])) {
                plain.add(line);
            }
        }
        return plain;
    }

    /** The state behind a run on another new object, and behind some undo() or a restore(). */
    private static String ending(List<String> lines, int undone, int slot) {
        Script again = new Script(lines);
        for (String line : lines) {
            if (!line.equals("mark") && !line.equals("same")) {
                again.make(line.split(" = ")[0]);
            }
        }
        StringBuilder told = new StringBuilder();
        for (int i = 0; i < undone; i++) {
            told.append(again.ask("undo")).append(' ');
        }
        if (slot >= 0) {
            told.append(again.ask("restore", slot)).append(' ');
        }
        told.append(again.ask("count", 8)).append(' ').append(again.ask("count", 9)).append(' ');
        return told.append(again.state()).toString();
    }
}
