import java.math.BigInteger;

/** The edges of promises 32, 33 and 38: fires by odds, the mean of moods, nights by lot. */
public final class OddsBoundTest {
    private static final Due DUE = new Due("OddsBoundTest");
    private static final String RING = "d?001;d?012;d?023;d?034;d?045;d?056;d?067;d?070;";
    private static final int[] SEEDS = {0, 1, -1, 7, 255, 256, -256, 123456789, -123456789,
        Integer.MIN_VALUE, Integer.MIN_VALUE + 1, Integer.MAX_VALUE, Integer.MAX_VALUE - 1};

    public static void main(String[] args) {
        fireOfNoHours();
        fireOfOneHour();
        fireOfSevenHours();
        fireOfTheFirstAndTheLast();
        fireInLowestTerms();
        firePasses999();
        fireOutOfRange();
        meanFromNobodyToSix();
        meanOutOfRange();
        lotsOfOneAndOfTwentyNights();
        aNightIsEightHours();
        everyNightIsFromNow();
        aDrawOverAnInt();
        lotsOfNobodyAndOfSix();
        lotsOutOfRange();
        DUE.end();
    }

    private static void fire(DoorsOneSide x, String of, long above, long below) {
        DUE.is("fire " + of + " above", above, Calls.of(x, "fire " + of + " 0"));
        DUE.is("fire " + of + " below", below, Calls.of(x, "fire " + of + " 1"));
    }

    /** "n HOURS (0 .. 7)": behind 0 he is where he is, by all odds. */
    private static void fireOfNoHours() {
        DoorsOneSide x = Due.of("dp001;p015;");
        fire(x, "0 0 0 2", 1, 1);
        fire(x, "0 0 0 20", 1, 1);
        fire(x, "0 1 0 2", 0, 1);
        fire(x, "0 7 0 20", 0, 1);
    }

    /** "odds 1 in t (2 .. 20)". */
    private static void fireOfOneHour() {
        DoorsOneSide x = Due.of("dp001;p015;");
        fire(x, "0 0 1 2", 1, 2);
        fire(x, "0 1 1 2", 1, 2);
        fire(x, "0 0 1 3", 2, 3);
        fire(x, "0 1 1 3", 1, 3);
        fire(x, "0 0 1 19", 18, 19);
        fire(x, "0 0 1 20", 19, 20);
        fire(x, "0 1 1 20", 1, 20);
        fire(x, "0 7 1 20", 0, 1);
    }

    private static void fireOfSevenHours() {
        DoorsOneSide x = Due.of("dp001;p015;");
        fire(x, "0 0 7 2", 1, 128);
        fire(x, "0 1 7 2", 127, 128);
        fire(x, "0 0 7 20", 893871739L, 1280000000L);
        fire(x, "0 1 7 20", 386128261L, 1280000000L);
        fire(x, "0 0 6 20", 47045881L, 64000000L);
        // Seven DOORS, each by a fire of its own: only seven fires bring him through.
        x = Due.of("dp001;dp012;dp023;dp034;dp045;dp056;dp067;p075;");
        fire(x, "0 7 7 2", 1, 128);
        fire(x, "0 7 7 20", 1, 1280000000L);
        fire(x, "0 7 6 20", 0, 1);
        fire(x, "0 6 7 2", 7, 128);
        DUE.is("HOUR stays", 0, x.count(2));
        DUE.is("ROOM stays", 0, x.person(0, 0));
    }

    private static void fireOfTheFirstAndTheLast() {
        DoorsOneSide x = Due.of("dp070;p705;p115;p115;p115;p115;p705;");
        fire(x, "0 0 1 4", 1, 4);
        fire(x, "5 0 1 4", 1, 4);
        fire(x, "5 7 1 4", 3, 4);
        fire(x, "1 1 7 20", 1, 1);
    }

    /** "a fraction": 2 in 4 is 1 in 2, sure is 1 by 1, never 0 by 1. */
    private static void fireInLowestTerms() {
        DoorsOneSide x = Due.of("dp001;dp012;p025;");
        fire(x, "0 1 2 2", 1, 2);
        fire(x, "0 1 2 4", 3, 8);
        fire(x, "0 2 7 2", 15, 16);
        x = Due.of("do001;p015;");
        fire(x, "0 1 7 20", 1, 1);
        fire(x, "0 0 7 20", 0, 1);
    }

    private static void firePasses999() {
        DoorsOneSide x = new DoorsOneSide();
        Due.tell(x, "h60;".repeat(16) + "h39;");
        Due.tell(x, "dc001;p015;");
        fire(x, "0 1 1 5", 1, 5);
        fire(x, "0 1 2 5", 1, 1);
        fire(x, "0 0 7 20", 0, 1);
        DUE.is("HOUR stays", 999, x.count(2));
    }

    private static void fireOutOfRange() {
        DoorsOneSide x = Due.of("dp001;p015;");
        String[] calls = {"0 0 -1 2 0", "0 0 0 1 0", "0 0 8 2 0", "0 0 0 21 0", "0 0 0 2 -1", "0 0 0 2 2", "1 0 0 2 0", "0 8 0 2 0"};
        int[] refusals = {4, 4, 6, 6, 2, 2, 1, 1};
        for (int i = 0; i < calls.length; i++) {
            DUE.is("fire " + calls[i], 4000000000000000000L + refusals[i], Calls.of(x, "fire " + calls[i]));
        }
        DUE.is("REFUSALS", 8, x.count(11) + x.count(12) + x.count(14) + x.count(16));
    }

    /** "a fraction (0 by 1 of nobody)". */
    private static void mean(String text, long above, long below) {
        DoorsOneSide x = text.isEmpty() ? new DoorsOneSide() : Due.of(text);
        DUE.is("mean(0) of " + text, above, x.mean(0));
        DUE.is("mean(1) of " + text, below, x.mean(1));
    }

    private static void meanFromNobodyToSix() {
        mean("", 0, 1);
        mean("dp001;", 0, 1);
        mean("p000;", 0, 1);
        mean("p009;", 9, 1);
        mean("p000;p000;", 0, 1);
        mean("p000;p001;", 1, 2);
        mean("p009;p009;p009;p009;p009;p009;", 9, 1);
        mean("p000;p000;p000;p000;p000;p001;", 1, 6);
        mean("p009;p009;p009;p009;p009;p008;", 53, 6);
        mean("p000;p000;p000;p000;p000;p002;", 1, 3);
        mean("p000;p000;p000;p000;p000;p000;", 0, 1);
    }

    private static void meanOutOfRange() {
        DoorsOneSide x = new DoorsOneSide();
        DUE.is("mean(-1)", 4000000000000000002L, x.mean(-1));
        DUE.is("mean(2)", 4000000000000000002L, x.mean(2));
        DUE.is("-2 counted", 2, x.count(12));
    }

    /** A DRAW below 8, by numbers that do not wrap around. */
    private static final class Lot {
        private static final BigInteger ALL = BigInteger.ONE.shiftLeft(32);
        private BigInteger z;

        Lot(int z) {
            this.z = BigInteger.valueOf(z).mod(ALL);
        }

        int draw() {
            z = z.multiply(BigInteger.valueOf(1664525)).add(BigInteger.valueOf(1013904223)).mod(ALL);
            return z.mod(BigInteger.ONE.shiftLeft(31)).divide(BigInteger.valueOf(256)).mod(BigInteger.valueOf(8)).intValue();
        }
    }

    /** So many DOORS of a ring it is from a ROOM by lot to a GOAL by lot; who can go so many comes as far, or is home. */
    private static void ring(char kind, int hour, int most, int n, int z) {
        DoorsOneSide x = Due.of(RING.replace('?', kind) + "p007;p007;p007;");
        if (hour > 0) {
            x.hours(hour);
        }
        Lot lot = new Lot(z);
        int home = 0;
        int let = 0;
        for (int i = 0; i < 3 * n; i++) {
            int room = lot.draw();
            int doors = (lot.draw() - room + 8) % 8;
            home += doors <= most ? 1 : 0;
            let += Math.min(doors, most);
        }
        DUE.is("lots(" + n + ", " + z + ", 0) of " + kind, home, x.lots(n, z, 0));
        DUE.is("lots(" + n + ", " + z + ", 1) of " + kind, let, x.lots(n, z, 1));
        DUE.is("HOUR stays", hour, x.count(2));
    }

    /** "n nights (1 .. 20)". */
    private static void lotsOfOneAndOfTwentyNights() {
        for (int z : SEEDS) {
            ring('o', 0, 7, 1, z);
            ring('o', 0, 7, 2, z);
            ring('o', 0, 7, 19, z);
            ring('o', 0, 7, 20, z);
        }
    }

    /** "then 8 HOURS": one alone comes through four of a cat's doors in them, from an even HOUR and from an odd one. */
    private static void aNightIsEightHours() {
        for (int z : SEEDS) {
            for (int hour = 0; hour <= 1; hour++) {
                DoorsOneSide x = Due.of(RING.replace('?', 'c') + "p007;");
                Calls.times(hour, x, "hours 1");
                Lot lot = new Lot(z);
                int home = 0;
                int let = 0;
                for (int i = 0; i < 20; i++) {
                    int room = lot.draw();
                    int doors = (lot.draw() - room + 8) % 8;
                    home += doors <= 4 ? 1 : 0;
                    let += Math.min(doors, 4);
                }
                DUE.is("home by a cat's doors from HOUR " + hour, home, x.lots(20, z, 0));
                DUE.is("LET by a cat's doors from HOUR " + hour, let, x.lots(20, z, 1));
            }
        }
    }

    /** "each from now": at HOUR 999 too, with LET of before not counted. */
    private static void everyNightIsFromNow() {
        DoorsOneSide x = Due.of("h60;".repeat(16) + "h39;");
        Due.tell(x, RING.replace('?', 'o') + "p007;p007;");
        Lot lot = new Lot(5);
        int let = 0;
        for (int i = 0; i < 2 * 20; i++) {
            int room = lot.draw();
            let += (lot.draw() - room + 8) % 8;
        }
        DUE.is("all are home", 40, x.lots(20, 5, 0));
        DUE.is("LET more", let, x.lots(20, 5, 1));
        DUE.is("HOUR stays", 999, x.count(2));
        DUE.is("LET stays", 0, x.count(3));
        x = Due.of(RING.replace('?', 'o') + "p077;h07;");
        DUE.is("LET", 7, x.count(3));
        DUE.is("asked again it is as much", x.lots(20, 5, 1), x.lots(20, 5, 1));
        lot = new Lot(5);
        int room = lot.draw();
        DUE.is("LET more, not all", (lot.draw() - room + 8) % 8, x.lots(1, 5, 1));
        DUE.is("GOAL stays", 7, x.person(0, 1));
    }

    /** "z becomes z times 1664525 and 1013904223 (an int); (z without its sign's bit by 256, cut) modulo m". */
    private static void aDrawOverAnInt() {
        // From 0: 1013904223, by 256 3960563, modulo 8 is 3; then 1196435762, by 256 4673577, modulo 8 is 1.
        DoorsOneSide x = Due.of(RING.replace('?', 'o') + "p007;");
        DUE.is("lots(1, 0, 1), from 3 to 1", 6, x.lots(1, 0, 1));
        // From 7: 1025555898, by 256 4006077, is 5; then -371543599, without its sign's bit 1775940049, by 256
        // 6937265, is 1.
        DUE.is("lots(1, 7, 1), from 5 to 1", 4, x.lots(1, 7, 1));
        // From -1: 1012239698, by 256 3954061, is 5; then 806866057, by 256 3151820, is 4.
        DUE.is("lots(1, -1, 1), from 5 to 4", 7, x.lots(1, -1, 1));
        for (int z : SEEDS) {
            ring('o', 3, 7, 5, z);
        }
    }

    private static void lotsOfNobodyAndOfSix() {
        DoorsOneSide x = new DoorsOneSide();
        DUE.is("nobody: home", 0, x.lots(20, 0, 0));
        DUE.is("nobody: LET", 0, x.lots(20, 0, 1));
        x = Due.of(RING.replace('?', 'o'));
        Due.tell(x, "p000;p000;p000;p000;p000;p000;");
        DUE.is("six: home in twenty nights", 120, x.lots(20, 99, 0));
        DUE.is("six: ROOMS stay", 63, x.count(4));
    }

    private static void lotsOutOfRange() {
        DoorsOneSide x = Due.of("p000;");
        DUE.is("lots(0, 0, 0)", -4, x.lots(0, 0, 0));
        DUE.is("lots(21, 0, 0)", -6, x.lots(21, 0, 0));
        DUE.is("lots(20, 0, 2)", -2, x.lots(20, 0, 2));
        DUE.is("lots(1, 0, -1)", -2, x.lots(1, 0, -1));
    }
}
