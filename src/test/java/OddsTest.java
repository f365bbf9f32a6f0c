/** Promises 32, 33 and 38: fires by odds, the mean of moods, nights by lot. */
public final class OddsTest {
    private static final Due DUE = new Due("OddsTest");
    private static final long REFUSAL = 4000000000000000000L;

    public static void main(String[] args) {
        fire();
        fireRefused();
        mean();
        lots();
        lotsRefused();
        DUE.end();
    }

    private static void fraction(String what, DoorsOneSide x, int[] of, long above, long below) {
        DUE.is(what + " above", above, x.fire(of[0], of[1], of[2], of[3], 0));
        DUE.is(what + " below", below, x.fire(of[0], of[1], of[2], of[3], 1));
    }

    private static void fire() {
        // A door that opens by fire alone, and a second one behind it.
        DoorsOneSide x = Due.of("dp001;dp012;p025;");
        fraction("in 0 behind 0", x, new int[] {0, 0, 0, 2}, 1, 1);
        fraction("in 1 behind 0", x, new int[] {0, 1, 0, 2}, 0, 1);
        fraction("in 0 behind 1 of 3", x, new int[] {0, 0, 1, 3}, 2, 3);
        fraction("in 1 behind 1 of 3", x, new int[] {0, 1, 1, 3}, 1, 3);
        fraction("in 2 behind 1 of 3", x, new int[] {0, 2, 1, 3}, 0, 1);
        fraction("in 0 behind 2 of 4", x, new int[] {0, 0, 2, 4}, 9, 16);
        fraction("in 1 behind 2 of 4", x, new int[] {0, 1, 2, 4}, 3, 8);
        fraction("in 2 behind 2 of 4", x, new int[] {0, 2, 2, 4}, 1, 16);
        fraction("in 2 behind 2 of 2", x, new int[] {0, 2, 2, 2}, 1, 4);
        fraction("in 0 behind 7 of 20", x, new int[] {0, 0, 7, 20}, 893871739L, 1280000000L);
        fraction("in 1 behind 7 of 20", x, new int[] {0, 1, 7, 20}, 329321167L, 1280000000L);
        fraction("in 3 behind 7 of 20", x, new int[] {0, 3, 7, 20}, 0, 1);
        // In even hours it is shut: 1 in 2 in the second, if he did not come in the first.
        x = Due.of("dc001;p015;h01;r00;");
        fraction("cat in 1 behind 1", x, new int[] {0, 1, 1, 2}, 1, 2);
        fraction("cat in 1 behind 2", x, new int[] {0, 1, 2, 2}, 1, 1);
        // Fires move the others too: without the helper the door is shut.
        x = Due.of("dp012;dp001;p125;p015;");
        fraction("others are moved by fires", x, new int[] {1, 1, 1, 5}, 1, 1);
        fraction("the helper is gone by then", x, new int[] {0, 2, 1, 5}, 1, 5);
        DUE.is("HOUR stays", 0, x.count(2));
        DUE.is("ROOM stays", 1, x.person(0, 0));
    }

    private static void fireRefused() {
        DoorsOneSide x = Due.of("dp001;p015;");
        DUE.is("fire(1, 0, -1, 1, 2): -1 goes first", REFUSAL + 1, x.fire(1, 0, -1, 1, 2));
        DUE.is("fire(-1, 0, 0, 2, 0)", REFUSAL + 1, x.fire(-1, 0, 0, 2, 0));
        DUE.is("fire(0, 8, -1, 1, 2): -1 goes first", REFUSAL + 1, x.fire(0, 8, -1, 1, 2));
        DUE.is("fire(0, -1, 0, 2, 0)", REFUSAL + 1, x.fire(0, -1, 0, 2, 0));
        DUE.is("fire(0, 0, -1, 21, 2): -4 goes next", REFUSAL + 4, x.fire(0, 0, -1, 21, 2));
        DUE.is("fire(0, 0, 8, 1, 2): -4 goes next", REFUSAL + 4, x.fire(0, 0, 8, 1, 2));
        DUE.is("fire(0, 0, 8, 2, 2): -6 goes next", REFUSAL + 6, x.fire(0, 0, 8, 2, 2));
        DUE.is("fire(0, 0, 0, 21, 2): -6 goes next", REFUSAL + 6, x.fire(0, 0, 0, 21, 2));
        DUE.is("fire(0, 0, 7, 20, 2)", REFUSAL + 2, x.fire(0, 0, 7, 20, 2));
        DUE.is("fire(0, 0, 0, 2, -1)", REFUSAL + 2, x.fire(0, 0, 0, 2, -1));
        DUE.is("-1 counted", 4, x.count(11));
        DUE.is("-2 counted", 2, x.count(12));
        DUE.is("-4 counted", 2, x.count(14));
        DUE.is("-6 counted", 2, x.count(16));
    }

    private static void mean() {
        DoorsOneSide x = new DoorsOneSide();
        DUE.is("mean(0) of nobody", 0, x.mean(0));
        DUE.is("mean(1) of nobody", 1, x.mean(1));
        DUE.is("mean(2)", REFUSAL + 2, x.mean(2));
        DUE.is("mean(-1)", REFUSAL + 2, x.mean(-1));
        DUE.is("-2 counted", 2, x.count(12));
        x = Due.of("p009;p003;p002;p000;");
        DUE.is("mean(0) of 9, 3, 2, 0", 7, x.mean(0));
        DUE.is("mean(1) of 9, 3, 2, 0", 2, x.mean(1));
        x = Due.of("p001;p001;p001;p001;p001;p009;");
        DUE.is("mean(0) of six", 7, x.mean(0));
        DUE.is("mean(1) of six", 3, x.mean(1));
        x = Due.of("p000;p000;p000;");
        DUE.is("mean(0) of noughts", 0, x.mean(0));
        DUE.is("mean(1) of noughts", 1, x.mean(1));
        x = Due.of("p003;p003;p003;");
        DUE.is("mean(0) of threes", 3, x.mean(0));
        DUE.is("mean(1) of threes", 1, x.mean(1));
        x = Due.of("p009;p008;p000;");
        DUE.is("mean(0) of 9, 8, 0", 17, x.mean(0));
        DUE.is("mean(1) of 9, 8, 0", 3, x.mean(1));
    }

    /** Nights of calls on objects, with draws of the test's own. */
    private static int[] nights(String text, int n, int z) {
        long seed = z;
        int home = 0;
        int let = 0;
        for (int night = 0; night < n; night++) {
            DoorsOneSide x = Due.of(text);
            int before = x.count(3);
            for (int p = 0; p < x.count(1); p++) {
                seed = (int) (seed * 1664525L + 1013904223L);
                x.stands(p, (int) ((seed & 0x7fffffffL) / 256 % 8));
                seed = (int) (seed * 1664525L + 1013904223L);
                x.wants(p, (int) ((seed & 0x7fffffffL) / 256 % 8));
            }
            home += x.hours(8);
            let += x.count(3) - before;
        }
        return new int[] {home, let};
    }

    private static void lots() {
        String text = "do001;do012;do023;dp034;ds045;do056;dc067;do070;p015;p128;p239;p340;h03;r00;";
        int[] seeds = {0, 1, 7, -1, 123456789, Integer.MIN_VALUE, Integer.MAX_VALUE};
        for (int z : seeds) {
            for (int n = 1; n <= 20; n += 19) {
                DoorsOneSide x = Due.of(text);
                int[] due = nights(text, n, z);
                DUE.is("lots(" + n + ", " + z + ", 0)", due[0], x.lots(n, z, 0));
                DUE.is("lots(" + n + ", " + z + ", 1)", due[1], x.lots(n, z, 1));
                DUE.is("HOUR stays", 3, x.count(2));
                DUE.is("ROOM stays", 0, x.person(0, 0));
            }
        }
        DUE.is("lots(20, 5, 0) of nobody", 0, new DoorsOneSide().lots(20, 5, 0));
        DUE.is("lots(20, 5, 1) of nobody", 0, new DoorsOneSide().lots(20, 5, 1));
    }

    private static void lotsRefused() {
        DoorsOneSide x = Due.of("p015;");
        DUE.is("lots(0, 0, 2): -4 goes first", -4, x.lots(0, 0, 2));
        DUE.is("lots(21, 0, 2): -6 goes next", -6, x.lots(21, 0, 2));
        DUE.is("lots(20, 0, 2)", -2, x.lots(20, 0, 2));
        DUE.is("lots(1, 0, -1)", -2, x.lots(1, 0, -1));
    }
}
