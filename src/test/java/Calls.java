import java.lang.reflect.Method;
import java.lang.reflect.Modifier;
import java.util.ArrayList;
import java.util.HashMap;
import java.util.List;
import java.util.Map;

/** Calls by their text ("moods 0 10"), and a look at all that there is in an object. */
final class Calls {
    private static final Map<String, Method> METHODS = new HashMap<>();

    static {
        for (Method m : DoorsOneSide.class.getDeclaredMethods()) {
            if (Modifier.isPublic(m.getModifiers())) {
                METHODS.put(m.getName(), m);
            }
        }
    }

    private Calls() {
    }

    /** Among the numbers MIN and MAX are the least and the greatest int. */
    static long of(DoorsOneSide x, String text) {
        String[] words = text.split(" ");
        Object[] numbers = new Object[words.length - 1];
        for (int i = 0; i < numbers.length; i++) {
            numbers[i] = number(words[i + 1]);
        }
        try {
            return ((Number) METHODS.get(words[0]).invoke(x, numbers)).longValue();
        } catch (ReflectiveOperationException e) {
            throw new IllegalStateException(text, e);
        }
    }

    private static int number(String word) {
        switch (word) {
            case "MIN": return Integer.MIN_VALUE;
            case "MAX": return Integer.MAX_VALUE;
            default: return Integer.parseInt(word);
        }
    }

    static void times(int n, DoorsOneSide x, String text) {
        for (int i = 0; i < n; i++) {
            of(x, text);
        }
    }

    static int[] refusals(DoorsOneSide x) {
        int[] counted = new int[6];
        for (int i = 0; i < 6; i++) {
            counted[i] = x.count(11 + i);
        }
        return counted;
    }

    /**
     * All that there is but REFUSALS: what is now, then the ROW, then what the letters become, then what the
     * image holds. The object is used up by it.
     */
    static List<String> look(DoorsOneSide x) {
        List<String> seen = new ArrayList<>();
        lookAtTown(x, seen);
        ask(x, seen, "count 6");
        ask(x, seen, "count 7");
        int people = x.count(0) == 0 ? 0 : x.count(1);
        for (int p = 0; p < people; p++) {
            ask(x, seen, "whatIs " + p + " 0 0");
            ask(x, seen, "whatIs " + p + " 0 1");
        }
        ask(x, seen, "judge");
        ask(x, seen, "town");
        lookAtTown(x, seen);
        ask(x, seen, "on");
        lookAtTown(x, seen);
        return seen;
    }

    private static void lookAtTown(DoorsOneSide x, List<String> seen) {
        for (int what = 0; what <= 5; what++) {
            ask(x, seen, "count " + what);
        }
        int doors = x.count(0);
        int people = x.count(1);
        for (int i = 0; i < 5 * doors; i++) {
            ask(x, seen, "door " + i / 5 + " " + i % 5);
        }
        for (int i = 0; i < 4 * people; i++) {
            ask(x, seen, "person " + i / 4 + " " + i % 4);
        }
        for (int room = 0; room < 8; room++) {
            ask(x, seen, "reach " + room);
        }
        ask(x, seen, "letThen 60");
    }

    private static void ask(DoorsOneSide x, List<String> seen, String text) {
        seen.add(text + " answered " + of(x, text));
    }
}
