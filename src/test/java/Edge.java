import java.lang.reflect.InvocationTargetException;
import java.lang.reflect.Method;
import java.lang.reflect.Modifier;
import java.util.ArrayList;
import java.util.HashMap;
import java.util.List;
import java.util.Map;
import java.util.Set;

/**
 * Runs of calls on new objects, each for one sentence of the document, told as texts: "straw(21, 0) = BAD".
 * A step is a call, or one of: "tape p+w" (feeds), "law p+w" (feeds, and law()), "rings 0: 190 180", "bytes 0: 6 3 0"
 * (a row that is filled), "9 x second()" (the same step again, the last answer counts); each with " = " and what is due, or without.
 * The refusals have names: BAD, VOID, NOTHING (-11), KIND (-12), PLACE (-13), SIZE (-14), MIN (no element), NONE (no straw came).
 * A step that is refused, or that only asks, may change nothing: an object that did without it must look the same.
 */
final class Edge {
    private static final int MOST_CALLS = 512;
    private static final Map<String, Long> NAMED = Map.ofEntries(Map.entry("BAD", -1L), Map.entry("NOT", -2L), Map.entry("FULL", -3L), Map.entry("STATE", -5L),
        Map.entry("VOID", -2000000000L), Map.entry("MIN", Long.MIN_VALUE), Map.entry("NOTHING", -11L), Map.entry("KIND", -12L), Map.entry("PLACE", -13L),
        Map.entry("SIZE", -14L), Map.entry("NONE", 0L));
    private static final Set<String> ASKING = Set.of("of", "wants", "glass", "level", "empty", "more", "turns", "mark", "halves", "reachFor", "slow",
        "both", "holeFor", "stopFor", "judge", "who", "since", "drawn", "led", "trace", "element", "taken", "count");
    private static final Map<String, Method> FACE = face();

    private static int sentences = 0;
    private static int answers = 0;
    private static int twins = 0;
    private static int wrong = 0;

    private final TwoStraws x = new TwoStraws();
    private int calls = 0;

    private static Map<String, Method> face() {
        Map<String, Method> face = new HashMap<>();
        for (Method m : TwoStraws.class.getDeclaredMethods()) {
            if (Modifier.isPublic(m.getModifiers())) {
                face.put(m.getName(), m);
            }
        }
        return face;
    }

    /** The steps of a sentence; the first answer that is not due ends them. */
    static void holds(String sentence, String... steps) {
        sentences++;
        Edge edge = new Edge();
        for (int i = 0; i < steps.length; i++) {
            int sign = steps[i].lastIndexOf(" = ");
            String call = sign < 0 ? steps[i] : steps[i].substring(0, sign);
            String due = sign < 0 ? "" : steps[i].substring(sign + 3).trim();
            long got = edge.does(call);
            if (!due.isEmpty()) {
                answers++;
                long want = NAMED.containsKey(due) ? NAMED.get(due) : Long.parseLong(due);
                if (got != want) {
                    fails(sentence, call + " answered " + got + ", due is " + due, steps, i);
                    return;
                }
            }
            if (NAMED.containsKey(due) || ASKING.contains(nameOf(call))) {
                hasTwin(sentence, steps, i);
            }
        }
        if (edge.calls > MOST_CALLS) {
            fails(sentence, "more calls than the document promises: " + edge.calls, steps, steps.length - 1);
        }
    }

    static void end() {
        System.out.println(sentences + " sentences, " + answers + " answers and " + twins + " twins looked at, " + wrong + " not as due");
        if (wrong != 0) {
            System.exit(1);
        }
    }

    private static void fails(String sentence, String what, String[] steps, int last) {
        wrong++;
        System.out.println(sentence);
        for (int i = 0; i < last; i++) {
            System.out.println("    " + steps[i]);
        }
        System.out.println("  " + what);
    }

    /** Whether an object that did all steps but the one looks as an object that did that, too. */
    private static void hasTwin(String sentence, String[] steps, int step) {
        Edge with = new Edge();
        Edge without = new Edge();
        for (int i = 0; i <= step; i++) {
            int sign = steps[i].lastIndexOf(" = ");
            String call = sign < 0 ? steps[i] : steps[i].substring(0, sign);
            with.does(call);
            if (i < step) {
                without.does(call);
            }
        }
        twins++;
        String one = with.look();
        String other = without.look();
        if (!one.equals(other)) {
            fails(sentence, steps[step] + " changed something:\n    " + one + "\n    " + other, steps, step);
        }
    }

    private static String nameOf(String call) {
        int open = call.indexOf('(');
        return open < 0 ? "" : call.substring(0, open);
    }

    // ---- doing what a step says

    private long does(String step) {
        int times = step.indexOf(" x ");
        if (times > 0 && step.substring(0, times).chars().allMatch(Character::isDigit)) {
            long last = 0;
            for (int i = Integer.parseInt(step.substring(0, times)); i > 0; i--) {
                last = does(step.substring(times + 3));
            }
            return last;
        }
        if (step.startsWith("tape ")) {
            return feeds(step.substring(5));
        }
        if (step.equals("law") || step.startsWith("law ")) {
            feeds(step.length() > 4 ? step.substring(4) : "");
            return calls("law", new long[0]);
        }
        if (step.startsWith("rings ") || step.startsWith("bytes ")) {
            return fills(step);
        }
        String inside = step.substring(step.indexOf('(') + 1, step.lastIndexOf(')')).trim();
        String[] parts = inside.isEmpty() ? new String[0] : inside.split(",");
        long[] given = new long[parts.length];
        for (int i = 0; i < parts.length; i++) {
            given[i] = Long.parseLong(parts[i].trim());
        }
        return calls(nameOf(step), given);
    }

    private long feeds(String text) {
        long last = 0;
        for (int i = 0; i < text.length(); i++) {
            last = calls("feed", new long[] {text.charAt(i)});
        }
        return last;
    }

    private long fills(String step) {
        int shelf = Integer.parseInt(step.substring(6, step.indexOf(':')).trim());
        String told = step.substring(step.indexOf(':') + 1).trim();
        String[] values = told.isEmpty() ? new String[0] : told.split(" ");
        long last = calls("row", new long[] {shelf, step.startsWith("rings") ? 1 : 0, values.length});
        for (int i = 0; i < values.length; i++) {
            last = calls("put", new long[] {shelf, i, Long.parseLong(values[i])});
        }
        return last;
    }

    private long calls(String name, long[] given) {
        calls++;
        Method m = FACE.get(name);
        if (m == null || m.getParameterCount() != given.length) {
            throw new IllegalArgumentException("no such call: " + name + " of " + given.length);
        }
        Object[] args = new Object[given.length];
        for (int i = 0; i < given.length; i++) {
            args[i] = m.getParameterTypes()[i] == long.class ? (Object) given[i] : (Object) Math.toIntExact(given[i]);
        }
        try {
            return ((Number) m.invoke(x, args)).longValue();
        } catch (InvocationTargetException e) {
            throw new IllegalStateException(name + " threw", e.getCause());
        } catch (IllegalAccessException e) {
            throw new IllegalStateException(e);
        }
    }

    // ---- what an object looks like from outside

    /** All that can be asked, then what only doing tells: the rows' sorts, the tape, the changes, the image, the bodies. */
    private String look() {
        List<Long> seen = new ArrayList<>();
        numbers(seen);
        for (int what = 0; what <= 4; what++) {
            seen.add((long) x.count(what));
        }
        for (int i = 0; i < 24; i++) {
            seen.add((long) x.trace(i));
        }
        for (int shelf = 0; shelf < 6; shelf++) {
            for (int k = 0; k < 8; k++) {
                seen.add((long) x.taken(shelf, k));
            }
            for (int i = 0; x.element(shelf, i) != Long.MIN_VALUE; i++) {
                seen.add(x.element(shelf, i));
            }
            seen.add((long) x.put(shelf, 0, 0x87654321fedcba98L));
            seen.add(x.element(shelf, 0));
        }
        thoughts(seen);
        x.feed('+');
        x.feed('1');
        seen.add((long) x.law());
        thoughts(seen);
        undone(seen);
        seen.add((long) x.back());
        numbers(seen);
        thoughts(seen);
        seen.add((long) x.body(0));
        seen.add((long) x.straw(1, 1));
        return seen.toString();
    }

    private void numbers(List<Long> seen) {
        for (int number = 0; number < 3; number++) {
            for (int what = 0; what <= 14; what++) {
                seen.add((long) x.of(number, what));
            }
            for (int what = 0; what <= 4; what++) {
                seen.add((long) x.led(number, what));
            }
        }
    }

    private void thoughts(List<Long> seen) {
        for (int k = 0; k < 3; k++) {
            seen.add((long) x.wants(k, 150, 7));
            seen.add((long) x.glass(20, k, 0));
            seen.add((long) x.glass(20, k, 2));
        }
        seen.add((long) x.level(20, 0));
        seen.add((long) x.level(20, 1));
    }

    private void undone(List<Long> seen) {
        int answer = 0;
        for (int i = 0; i < 42 && answer >= 0; i++) {
            answer = x.redo();
            seen.add((long) answer);
        }
        numbers(seen);
        answer = 0;
        for (int i = 0; i < 42 && answer >= 0; i++) {
            answer = x.undo();
            seen.add((long) answer);
        }
        numbers(seen);
    }
}
