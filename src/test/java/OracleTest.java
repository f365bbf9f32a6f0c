import java.lang.reflect.Method;
import java.util.Arrays;
import java.util.LinkedHashMap;
import java.util.Map;
import java.util.Random;

/** All promises: random runs of calls, each answer compared with the Oracle's. */
public final class OracleTest {
    private static final Due DUE = new Due("OracleTest");
    private static final int RUNS = 500;
    /** An object is used for 512 at most; a town of 98 letters and 18 counts must still have room at the end. */
    private static final int CALLS_MOST = 512;
    private static final int CALLS = CALLS_MOST - 99 - 18;

    /** For each method the least and the greatest of each number it takes. */
    private static final Map<String, int[]> CALLED = new LinkedHashMap<>();
    private static final Map<String, Method> ASKED = new LinkedHashMap<>();
    private static final Map<String, Method> DUES = new LinkedHashMap<>();

    static {
        String[] calls = {"letter 48 57", "town", "door 0 8 0 4", "person 0 5 0 3", "wedges 0 8", "turns 0 8",
            "stands 0 5 0 7", "wants 0 5 0 7", "moods 0 5 0 9", "changes 0 8 0 5 0 9", "hours 1 20",
            "personThen 0 5 0 60 0 1", "letThen 0 60", "comes 0 5 0 7", "home -1 5", "shutIn", "stuck",
            "way 0 7 0 7 0 1", "round 0 7", "reach 0 7", "open", "helper 0 30 0 1", "fewest 0 5 0 30", "turn 0 30",
            "wedge 0 30", "holds 0 30 0 1", "crowd 0 3", "handles 0 7", "meet 0 1", "two 0 5 0 5 0 30",
            "fire 0 5 0 7 0 7 2 20 0 1", "mean 0 1", "whatIs 0 5 0 8 0 1", "row 0 7", "judge", "clear",
            "lots 1 20 -99999 99999 0 1", "image", "on", "count 0 17"};
        for (String call : calls) {
            String[] words = call.split(" ");
            CALLED.put(words[0], Arrays.stream(words).skip(1).mapToInt(Integer::parseInt).toArray());
        }
        for (Method m : DoorsOneSide.class.getDeclaredMethods()) {
            if (java.lang.reflect.Modifier.isPublic(m.getModifiers())) {
                ASKED.put(m.getName(), m);
            }
        }
        for (Method m : Oracle.class.getDeclaredMethods()) {
            if (java.lang.reflect.Modifier.isPublic(m.getModifiers())) {
                DUES.put(m.getName(), m);
            }
        }
    }

    private final Random lot;
    private final int run;
    private final DoorsOneSide x = new DoorsOneSide();
    private final Oracle due = new Oracle();
    private int calls;

    private OracleTest(int run) {
        this.run = run;
        lot = new Random(run);
    }

    public static void main(String[] args) throws ReflectiveOperationException {
        DUE.is("methods that are compared", CALLED.size(), ASKED.size());
        for (int run = 0; run < RUNS; run++) {
            new OracleTest(run).compare();
        }
        DUE.end();
    }

    private void compare() throws ReflectiveOperationException {
        String[] names = CALLED.keySet().toArray(new String[0]);
        if (run % 10 != 0) {
            tell(aTown());
        }
        if (run % 5 == 1) {
            comeNearTheEnd();
        }
        while (calls <= CALLS) {
            int kind = lot.nextInt(20);
            if (kind == 0) {
                tell(lot.nextBoolean() ? aTown() : spoilt(aTown()));
            } else if (kind == 1) {
                tellRow();
            } else {
                String name = names[lot.nextInt(names.length)];
                call(name, numbersFor(CALLED.get(name)));
            }
        }
        for (int what = 0; what < 18; what++) {
            call("count", what);
        }
        DUE.is("run " + run + " has too many calls", 0, calls > CALLS_MOST ? 1 : 0);
    }

    /** HOUR near 999, a ROW and letters nearly full: else a run seldom comes to their ends. */
    private void comeNearTheEnd() throws ReflectiveOperationException {
        for (int i = 0; i < 16; i++) {
            call("hours", 60);
        }
        call("hours", 1 + lot.nextInt(39));
        for (int i = 0; i < 14; i++) {
            call("row", lot.nextInt(8));
        }
        if (run % 2 == 0) {
            tell("h01;".repeat(23 + lot.nextInt(2)) + "h0");
        }
    }

    private int[] numbersFor(int[] bounds) {
        int[] numbers = new int[bounds.length / 2];
        boolean isWrong = lot.nextInt(8) == 0;
        for (int i = 0; i < numbers.length; i++) {
            int least = bounds[2 * i];
            int most = bounds[2 * i + 1];
            numbers[i] = least + lot.nextInt(most - least + 1);
            if (isWrong && lot.nextInt(2) == 0) {
                int[] wrong = {least - 1, most + 1, least - 2, most + 2, -1, -2, Integer.MIN_VALUE, Integer.MAX_VALUE, 300};
                numbers[i] = wrong[lot.nextInt(wrong.length)];
            }
        }
        return numbers;
    }

    private void call(String name, int... numbers) throws ReflectiveOperationException {
        calls++;
        Object[] given = Arrays.stream(numbers).boxed().toArray();
        long got = ((Number) ASKED.get(name).invoke(x, given)).longValue();
        long want = ((Number) DUES.get(name).invoke(due, given)).longValue();
        DUE.is("run " + run + ", call " + calls + ", " + name + Arrays.toString(numbers), want, got);
    }

    private void tell(String text) throws ReflectiveOperationException {
        for (char c : text.toCharArray()) {
            call("letter", c);
        }
        call("town");
    }

    /** Where one will be, sometimes with a number of its own: else no ROW would ever be so. */
    private void tellRow() throws ReflectiveOperationException {
        call("clear");
        int person = lot.nextInt(6);
        int length = 1 + lot.nextInt(8);
        boolean isJudged = lot.nextBoolean();
        for (int i = 0; i < length; i++) {
            int v = isJudged ? due.person(i, 0) : due.personThen(person, i, 0);
            calls++;
            if (isJudged) {
                x.person(i, 0);
            } else {
                x.personThen(person, i, 0);
            }
            call("row", lot.nextInt(12) == 0 ? lot.nextInt(9) : Math.max(0, v));
        }
        if (isJudged) {
            call("judge");
        } else {
            call("whatIs", person, lot.nextInt(9), lot.nextInt(2));
        }
    }

    private String aTown() {
        StringBuilder text = new StringBuilder();
        int rooms = 3 + lot.nextInt(6);
        int statements = 3 + lot.nextInt(14);
        for (int i = 0; i < statements; i++) {
            String next = statement(Math.min(8, rooms));
            if (text.length() + next.length() <= 96) {
                text.append(next);
            }
        }
        return text.toString();
    }

    private String statement(int rooms) {
        int from = lot.nextInt(rooms);
        int into = (from + 1 + lot.nextInt(rooms - 1)) % rooms;
        int doors = Math.max(1, due.count(0));
        int people = Math.max(1, due.count(1));
        switch (lot.nextInt(14)) {
            case 0: return "g" + lot.nextInt(people) + from + ";";
            case 1: return "r" + lot.nextInt(people) + from + ";";
            case 2: return "w" + lot.nextInt(doors) + ";";
            case 3: return "t" + lot.nextInt(doors) + ";";
            case 4: return "h0" + (1 + lot.nextInt(9)) + ";";
            case 5: case 6: case 7: case 8:
                return due.count(1) == 6 ? "" : "p" + lot.nextInt(rooms) + lot.nextInt(rooms) + lot.nextInt(10) + ";";
            default:
                return due.count(0) == 9 ? "" : "d" + "pskcob".charAt(lot.nextInt(6)) + lot.nextInt(10) + from + into + ";";
        }
    }

    private String spoilt(String text) {
        StringBuilder spoilt = new StringBuilder(text);
        if (spoilt.length() > 0) {
            int place = lot.nextInt(spoilt.length());
            switch (lot.nextInt(3)) {
                case 0: spoilt.setLength(place); break;
                case 1: spoilt.deleteCharAt(place); break;
                default: spoilt.setCharAt(place, "0189dpgrwth;xbk".charAt(lot.nextInt(15))); break;
            }
        }
        return spoilt.toString();
    }
}
