import java.util.ArrayList;
import java.util.List;

/**
 * What is asked in mind, and a TOWN with a FAULT, leave nothing behind: any call behind it answers what it answers
 * on a twin to which that was not said.
 */
public final class InMindTest {
    private static final Due DUE = new Due("InMindTest");
    private static final String DOORS = "ds901;do012;dc323;dk430;";
    /** The last one is shut in. */
    private static final String PEOPLE = "p025;p137;p330;p369;";

    /** Faults behind much that is told, and every question for which one goes on in thought. */
    private static final String[] SAID = {
        "tell dp345;db950;p447;p559;t0;w1;r07;g16;h09;w9;", "tell p118;p118;p118;r03;t1;t2;h60;h00;",
        "personThen 0 60 0", "letThen 60", "comes 0 7", "home 0", "home -1", "stuck", "helper 30 0", "helper 0 1",
        "fewest 2 30", "turn 30", "turn 0", "wedge 30", "wedge 0", "holds 30 0", "holds 0 1", "two 0 1 30", "two 2 1 0",
        "fire 0 2 7 2 0", "whatIs 0 0 0", "whatIs 1 3 1", "lots 1 5 0", "lots 20 -7 1"};

    public static void main(String[] args) {
        List<String> asked = asked();
        for (int state = 0; state < 3; state++) {
            for (String said : SAID) {
                for (String call : asked) {
                    compare(state, said, call);
                }
            }
        }
        DUE.end();
    }

    private static void compare(int state, String said, String call) {
        DoorsOneSide x = made(state);
        DoorsOneSide twin = made(state);
        say(x, said);
        DUE.is(call + " behind " + said + " in state " + state, Calls.of(twin, call), Calls.of(x, call));
        // One who was changed by the call would show it in what comes.
        DUE.is("letThen behind both", twin.letThen(9), x.letThen(9));
        DUE.is("MOODS behind both", twin.count(5), x.count(5));
        DUE.is("HOUR behind both", twin.count(2), x.count(2));
    }

    private static void say(DoorsOneSide x, String said) {
        if (!said.startsWith("tell ")) {
            Calls.of(x, said);
        } else if (Due.tell(x, said.substring(5)) > -2000) {
            throw new IllegalStateException(said + " must have a FAULT of kind 2");
        }
    }

    /** A town; a town with an image of nothing; nothing, by ON from an image, where there was a town. */
    private static DoorsOneSide made(int state) {
        DoorsOneSide x = new DoorsOneSide();
        if (state > 0) {
            x.image();
        }
        Due.tell(x, DOORS + PEOPLE);
        x.row(0);
        x.row(3);
        if (state == 2) {
            x.helper(9, 0);
            x.on();
        }
        return x;
    }

    /** Every call, of each DOOR, of each of PEOPLE, and of the first that are not there. */
    private static List<String> asked() {
        List<String> calls = new ArrayList<>(List.of("town", "hours 7", "letThen 5", "home -1", "shutIn", "stuck", "open",
            "helper 5 0", "helper 5 1", "turn 5", "wedge 5", "holds 5 0", "holds 5 1", "meet 0", "meet 1", "mean 0",
            "mean 1", "judge", "clear", "lots 3 9 0", "lots 3 9 1", "image", "on", "row 5", "letter 104"));
        for (int i = 0; i <= 7; i++) {
            calls.addAll(List.of("count " + i, "round " + i, "reach " + i, "handles " + i, "crowd " + i % 4,
                "way 0 " + i + " 0", "way " + i + " 2 1", "comes 0 " + i));
        }
        for (int door = 0; door <= 5; door++) {
            calls.addAll(List.of("wedges " + door, "turns " + door, "changes " + door + " 2 9", "whatIs 0 " + door + " 0"));
            for (int what = 0; what <= 4; what++) {
                calls.add("door " + door + " " + what);
            }
        }
        for (int person = 0; person <= 5; person++) {
            String his = " " + person;
            calls.addAll(List.of("stands" + his + " 7", "wants" + his + " 4", "moods" + his + " 1", "home" + his,
                "personThen" + his + " 4 0", "personThen" + his + " 4 1", "comes" + his + " 2", "fewest" + his + " 4",
                "two" + his + " 1 4", "two 0" + his + " 4", "fire" + his + " 2 3 4 0", "fire" + his + " 2 3 4 1",
                "whatIs" + his + " 1 1"));
            for (int what = 0; what <= 3; what++) {
                calls.add("person" + his + " " + what);
            }
        }
        return calls;
    }
}
