import java.util.List;
import java.util.Map;
import java.util.TreeMap;
import java.util.function.Supplier;

/**
 * REFUSALS: each of each call, by the last number below and the first above what is taken, which of two
 * comes first where both fit, and that nothing changes by it but how many there were.
 */
public final class RefusalBoundTest {
    private static final Due DUE = new Due("RefusalBoundTest");
    private static final long LONGS = 4000000000000000000L;
    private static final Map<String, Integer> ASKED = new TreeMap<>();

    private final Supplier<DoorsOneSide> maker;
    private final String state;

    private RefusalBoundTest(String state, Supplier<DoorsOneSide> maker) {
        this.state = state;
        this.maker = maker;
    }

    public static void main(String[] args) {
        inATown();
        whenNew();
        whenFull();
        nearTheLastHour();
        longsAreRefusedByTheirOwnNumbers();
        everyCallThatRefusesIsHere();
        neverRefused();
        DUE.end();
    }

    /** Three DOORS, three of PEOPLE, HOUR 2, letters and a ROW begun, an image of something else. */
    private static DoorsOneSide aTown() {
        DoorsOneSide x = Due.of("do001;ds912;dk520;p029;p113;p208;w1;");
        x.image();
        x.hours(2);
        Calls.of(x, "turns 2");
        for (char c : "p777;h03;".toCharArray()) {
            x.letter(c);
        }
        x.row(x.person(0, 0));
        x.row(x.person(1, 0));
        return x;
    }

    /** Nine DOORS, six of PEOPLE, HOUR 999, 96 letters, 16 numbers in the ROW. */
    private static DoorsOneSide full() {
        DoorsOneSide x = Due.of("do001;do012;do023;dp034;ds045;dk556;dc767;db070;do107;");
        Due.tell(x, "p001;p123;p245;p367;p409;p578;");
        x.image();
        Calls.times(16, x, "hours 60");
        x.hours(39);
        Calls.times(96, x, "letter 104");
        for (int i = 0; i < 16; i++) {
            x.row(i < 6 ? x.person(i, 0) : 99);
        }
        return x;
    }

    private static DoorsOneSide atHour(int hour) {
        DoorsOneSide x = Due.of("do001;p015;");
        Calls.times(hour / 60, x, "hours 60");
        x.hours(hour % 60);
        return x;
    }

    /** A refused call, on an object made for it alone; a twin tells what would be without the call. */
    private void is(long want, String... calls) {
        for (String call : calls) {
            DoorsOneSide x = maker.get();
            DoorsOneSide twin = maker.get();
            String what = state + ": " + call;
            ASKED.merge(call.split(" ")[0], 1, Integer::sum);
            DUE.is(what, want < 0 ? want : LONGS + want, Calls.of(x, call));
            int[] before = Calls.refusals(twin);
            int[] after = Calls.refusals(x);
            for (int i = 0; i < 6; i++) {
                int more = Math.abs(want) == i + 1 ? 1 : 0;
                DUE.is(what + ": how many there were of " + (-1 - i), before[i] + more, after[i]);
            }
            List<String> due = Calls.look(twin);
            List<String> seen = Calls.look(x);
            DUE.is(what + ": answers behind it", due.size(), seen.size());
            for (int i = 0; i < Math.min(due.size(), seen.size()); i++) {
                if (!due.get(i).equals(seen.get(i))) {
                    DUE.is(what + ": then " + seen.get(i) + ", without it " + due.get(i), 0, 1);
                }
            }
        }
    }

    private static void inATown() {
        RefusalBoundTest t = new RefusalBoundTest("in a town", RefusalBoundTest::aTown);
        t.changing();
        t.asked();
        t.tried();
        t.byOdds();
        t.rowsAndLots();
    }

    private void changing() {
        is(-4, "letter -1", "letter -2", "letter MIN");
        is(-6, "letter 256", "letter 257", "letter MAX");
        is(-1, "door -1 0", "door 3 0", "door MIN 0", "door MAX 0", "door 3 5", "door -1 -1");
        is(-2, "door 0 -1", "door 0 5", "door 2 5", "door 0 MIN", "door 0 MAX");
        is(-1, "person -1 0", "person 3 0", "person MIN 0", "person MAX 0", "person 3 4", "person -1 -1");
        is(-2, "person 0 -1", "person 0 4", "person 2 4", "person 0 MIN", "person 0 MAX");
        is(-1, "wedges -1", "wedges 3", "wedges MIN", "wedges MAX");
        is(-1, "turns -1", "turns 3", "turns MIN", "turns MAX");
        is(-1, "stands -1 0", "stands 3 0", "stands 0 -1", "stands 0 8", "stands 3 8", "stands MIN MAX", "stands MAX MIN");
        is(-1, "wants -1 0", "wants 3 0", "wants 0 -1", "wants 0 8", "wants 3 8", "wants MIN MAX", "wants MAX MIN");
        is(-1, "moods -1 0", "moods 3 0", "moods 3 -1", "moods 3 10", "moods -1 -1", "moods -1 10");
        is(-4, "moods 0 -1", "moods 2 MIN");
        is(-6, "moods 0 10", "moods 2 MAX");
        is(-1, "changes -1 0 0", "changes 3 0 0", "changes 3 6 0", "changes 3 0 -1", "changes 3 0 10", "changes 3 6 -1");
        is(-2, "changes 0 -1 0", "changes 0 6 0", "changes 0 6 -1", "changes 0 6 10", "changes 0 -1 -1", "changes 0 -1 10");
        is(-2, "changes 0 7 0", "changes 0 MIN 0", "changes 2 MAX 9");
        is(-4, "changes 0 0 -1", "changes 2 5 MIN");
        is(-6, "changes 0 0 10", "changes 2 5 MAX");
        is(-4, "hours 0", "hours -1", "hours MIN");
        is(-6, "hours 61", "hours 62", "hours MAX");
    }

    private void asked() {
        is(-1, "personThen -1 0 0", "personThen 3 0 0", "personThen 3 -1 0", "personThen 3 61 0", "personThen 3 0 2");
        is(-4, "personThen 0 -1 0", "personThen 2 MIN 0", "personThen 0 -1 2", "personThen 0 -1 -1");
        is(-6, "personThen 0 61 0", "personThen 2 MAX 0", "personThen 0 61 2", "personThen 0 61 -1");
        is(-2, "personThen 0 0 -1", "personThen 0 0 2", "personThen 2 60 2", "personThen 0 60 MIN", "personThen 0 0 MAX");
        is(-4, "letThen -1", "letThen MIN");
        is(-6, "letThen 61", "letThen MAX");
        is(-1, "comes -1 0", "comes 3 0", "comes 0 -1", "comes 0 8", "comes 3 8", "comes MIN MAX", "comes MAX MIN");
        is(-1, "home -2", "home 3", "home MIN", "home MAX");
        is(-1, "way -1 0 0", "way 8 0 0", "way 0 -1 0", "way 0 8 0", "way 8 8 0", "way MIN 0 0", "way 0 MAX 0");
        is(-1, "way 8 0 2", "way 0 8 2", "way -1 0 -1", "way 0 -1 -1");
        is(-2, "way 0 0 -1", "way 0 0 2", "way 7 7 2", "way 0 1 MIN", "way 0 1 MAX");
        is(-1, "round -1", "round 8", "round MIN", "round MAX");
        is(-1, "reach -1", "reach 8", "reach MIN", "reach MAX");
        is(-2, "crowd -1", "crowd 4", "crowd MIN", "crowd MAX");
        is(-1, "handles -1", "handles 8", "handles MIN", "handles MAX");
        is(-2, "meet -1", "meet 2", "meet MIN", "meet MAX");
    }

    private void tried() {
        is(-4, "helper -1 0", "helper MIN 1", "helper -1 2", "helper -1 -1");
        is(-6, "helper 31 0", "helper MAX 1", "helper 31 2", "helper 31 -1");
        is(-2, "helper 0 -1", "helper 0 2", "helper 30 2", "helper 30 MIN", "helper 0 MAX");
        is(-1, "fewest -1 0", "fewest 3 0", "fewest MIN 0", "fewest MAX 0", "fewest 3 -1", "fewest 3 31");
        is(-4, "fewest 0 -1", "fewest 2 MIN");
        is(-6, "fewest 0 31", "fewest 2 MAX");
        is(-4, "turn -1", "turn MIN");
        is(-6, "turn 31", "turn MAX");
        is(-4, "wedge -1", "wedge MIN");
        is(-6, "wedge 31", "wedge MAX");
        is(-4, "holds -1 0", "holds MIN 1", "holds -1 2", "holds -1 -1");
        is(-6, "holds 31 0", "holds MAX 1", "holds 31 2", "holds 31 -1");
        is(-2, "holds 0 -1", "holds 0 2", "holds 30 2", "holds 30 MIN", "holds 0 MAX");
        is(-1, "two -1 0 0", "two 0 -1 0", "two 3 0 0", "two 0 3 0", "two MIN MAX 0", "two MAX MIN 0");
        is(-1, "two 0 0 0", "two 2 2 30", "two 3 3 0", "two -1 -1 0");
        is(-1, "two 3 0 -1", "two 0 3 31", "two 1 1 -1", "two 1 1 31");
        is(-4, "two 0 1 -1", "two 2 0 MIN");
        is(-6, "two 0 1 31", "two 2 0 MAX");
    }

    private void byOdds() {
        is(1, "fire -1 0 0 2 0", "fire 3 0 0 2 0", "fire 0 -1 0 2 0", "fire 0 8 0 2 0", "fire MIN MAX 0 2 0");
        is(1, "fire 3 0 -1 2 0", "fire 0 8 0 1 0", "fire 3 0 8 2 0", "fire 0 8 0 21 0", "fire 3 0 0 2 2", "fire 0 8 0 2 -1");
        is(4, "fire 0 0 -1 2 0", "fire 0 0 0 1 0", "fire 0 0 MIN 2 0", "fire 0 0 0 MIN 0", "fire 0 0 0 0 0");
        is(4, "fire 0 0 -1 21 0", "fire 0 0 8 1 0", "fire 0 0 -1 2 2", "fire 0 0 0 1 -1");
        is(6, "fire 0 0 8 2 0", "fire 0 0 0 21 0", "fire 0 0 MAX 2 0", "fire 0 0 0 MAX 0");
        is(6, "fire 0 0 8 2 2", "fire 0 0 0 21 -1");
        is(2, "fire 0 0 0 2 -1", "fire 0 0 0 2 2", "fire 2 7 7 20 2", "fire 0 0 7 20 MIN", "fire 0 0 0 2 MAX");
        is(2, "mean -1", "mean 2", "mean MIN", "mean MAX");
    }

    private void rowsAndLots() {
        is(-1, "whatIs -1 0 0", "whatIs 3 0 0", "whatIs 0 -1 0", "whatIs 0 3 0", "whatIs 0 3 1", "whatIs MIN MAX 0");
        is(-1, "whatIs 3 0 2", "whatIs 0 3 2", "whatIs -1 0 -1", "whatIs 0 -1 -1");
        is(-2, "whatIs 0 0 -1", "whatIs 0 0 2", "whatIs 2 2 2", "whatIs 0 0 MIN", "whatIs 0 0 MAX");
        is(-4, "row -1", "row MIN");
        is(-6, "row 100", "row 101", "row MAX");
        is(-4, "lots 0 0 0", "lots -1 0 0", "lots MIN 0 1", "lots 0 0 2", "lots 0 0 -1");
        is(-6, "lots 21 0 0", "lots 22 0 0", "lots MAX 0 1", "lots 21 0 2", "lots 21 0 -1");
        is(-2, "lots 1 0 -1", "lots 1 0 2", "lots 20 0 2", "lots 20 0 MIN", "lots 1 0 MAX");
    }

    /** No DOORS and nobody: no number of one is taken, not 0 either. */
    private static void whenNew() {
        RefusalBoundTest t = new RefusalBoundTest("when new", DoorsOneSide::new);
        t.is(-1, "door 0 0", "person 0 0", "wedges 0", "turns 0", "stands 0 0", "wants 0 0", "moods 0 0", "changes 0 0 0");
        t.is(-1, "personThen 0 0 0", "comes 0 0", "home 0", "fewest 0 0", "two 0 1 0", "two 0 0 0", "whatIs 0 0 0");
        t.is(1, "fire 0 0 0 2 0");
        t.is(-3, "on");
        t = new RefusalBoundTest("with DOORS alone", () -> Due.of("dp001;"));
        t.is(-1, "person 0 0", "stands 0 0", "wants 0 0", "moods 0 0", "whatIs 0 0 0", "fewest 0 0", "home 0", "comes 0 0");
        t.is(-3, "on");
        t = new RefusalBoundTest("with PEOPLE alone", () -> Due.of("p015;"));
        t.is(-1, "door 0 0", "wedges 0", "turns 0", "changes 0 0 0", "whatIs 0 0 0", "whatIs 0 0 1", "two 0 1 0", "two 0 0 0");
        t.is(-3, "on");
    }

    private static void whenFull() {
        RefusalBoundTest t = new RefusalBoundTest("when full", RefusalBoundTest::full);
        t.is(-6, "letter 0", "letter 104", "letter 255", "letter 256", "letter MAX");
        t.is(-4, "letter -1", "letter MIN");
        t.is(-6, "row 0", "row 7", "row 99", "row 100", "row MAX");
        t.is(-4, "row -1", "row MIN");
        t.is(-6, "hours 1", "hours 60", "hours 61", "hours MAX");
        t.is(-4, "hours 0", "hours MIN");
        t.is(-1, "door 9 0", "wedges 9", "turns 9", "changes 9 0 0", "whatIs 0 9 0");
        t.is(-1, "person 6 0", "stands 6 0", "wants 6 0", "moods 6 0", "personThen 6 0 0", "comes 6 0", "home 6");
        t.is(-1, "fewest 6 0", "two 6 0 0", "two 0 6 0", "whatIs 6 0 0");
        t.is(1, "fire 6 0 0 2 0");
    }

    /** hours: -6 (60; HOUR above 999). */
    private static void nearTheLastHour() {
        new RefusalBoundTest("at HOUR 940", () -> atHour(940)).is(-6, "hours 60", "hours 61");
        new RefusalBoundTest("at HOUR 960", () -> atHour(960)).is(-6, "hours 40", "hours 41", "hours 60");
        new RefusalBoundTest("at HOUR 998", () -> atHour(998)).is(-6, "hours 2", "hours 3");
        new RefusalBoundTest("at HOUR 999", () -> atHour(999)).is(-6, "hours 1");
        DUE.is("hours(59) at HOUR 940", 1, atHour(940).hours(59));
        DUE.is("hours(60) at HOUR 939", 1, atHour(939).hours(60));
        DUE.is("hours(39) at HOUR 960", 1, atHour(960).hours(39));
        DUE.is("hours(1) at HOUR 998", 1, atHour(998).hours(1));
    }

    /** "Of longs they are 4000000000000000000 less them (-1 as 4000000000000000001)." */
    private static void longsAreRefusedByTheirOwnNumbers() {
        DoorsOneSide x = Due.of("p015;");
        DUE.is("fire of nobody", 4000000000000000001L, x.fire(1, 0, 0, 2, 0));
        DUE.is("fire of another part", 4000000000000000002L, x.fire(0, 0, 0, 2, 2));
        DUE.is("fire of HOURS below", 4000000000000000004L, x.fire(0, 0, -1, 2, 0));
        DUE.is("fire of HOURS above", 4000000000000000006L, x.fire(0, 0, 8, 2, 0));
        DUE.is("mean of another part", 4000000000000000002L, x.mean(2));
    }

    private static void everyCallThatRefusesIsHere() {
        String all = "changes comes crowd door fewest fire handles helper holds home hours letThen letter lots mean meet "
            + "moods on person personThen reach round row stands turn turns two wants way wedge wedges whatIs";
        DUE.is("calls that were refused: " + ASKED.keySet(), 1, String.join(" ", ASKED.keySet()).equals(all) ? 1 : 0);
    }

    /** FAULTS of a TOWN, -9 and calls without a refusal are not counted, whatever there is. */
    private static void neverRefused() {
        List<Supplier<DoorsOneSide>> makers = List.of(DoorsOneSide::new, RefusalBoundTest::aTown, RefusalBoundTest::full);
        for (Supplier<DoorsOneSide> maker : makers) {
            DoorsOneSide x = maker.get();
            String[] calls = {"shutIn", "stuck", "open", "judge", "clear", "judge", "clear", "town", "town", "image", "on",
                "count -1", "count 8", "count 9", "count 10", "count 17", "count MIN", "count MAX", "home -1",
                "turn 0", "turn 30", "wedge 0", "wedge 30", "holds 0 0", "holds 30 1", "meet 0", "meet 1",
                "way 0 7 0", "way 7 0 1", "round 7", "helper 30 0", "letThen 60", "lots 20 MIN 0", "lots 1 MAX 1"};
            for (String call : calls) {
                long answer = Calls.of(x, call);
                DUE.is(call + " answered " + answer, 0, answer < 0 && answer > -9 ? 1 : 0);
            }
            for (int refused : Calls.refusals(x)) {
                DUE.is("REFUSALS counted", 0, refused);
            }
        }
    }
}
