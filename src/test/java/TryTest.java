/** Promises 23 to 27 and 31: helpers, who stays, which door to change, who holds most, two. */
public final class TryTest {
    private static final Due DUE = new Due("TryTest");

    public static void main(String[] args) {
        helper();
        fewest();
        turn();
        wedge();
        holds();
        two();
        noTwo();
        refusals();
        nothingChanges();
        DUE.end();
    }

    private static void helper() {
        DoorsOneSide x = Due.of("dp001;dp012;p012;p122;p012;");
        DUE.is("helper(0, 0)", 0, x.helper(0, 0));
        DUE.is("helper(0, 1)", 0, x.helper(0, 1));
        DUE.is("helper(1, 0): the second lets the first in before he goes", 2, x.helper(1, 0));
        DUE.is("helper(1, 1)", 3, x.helper(1, 1));
        x = Due.of("dp001;dp012;p122;p012;");
        DUE.is("helper(1, 0) where he helps nobody more", 0, x.helper(1, 0));
        DUE.is("helper(1, 1) where he helps nobody more", 1, x.helper(1, 1));
        x.stands(0, 0);
        DUE.is("helper(2, 0) where it takes longer", 1, x.helper(2, 0));
        DUE.is("helper(2, 1)", 1, x.helper(2, 1));
        x = Due.of("dp012;dp001;p013;p125;");
        DUE.is("helper(1, 0) by door numbers", 2, x.helper(1, 0));
        x = Due.of("dk901;p012;");
        DUE.is("he has MOOD 9", 1, x.helper(1, 0));
        DUE.is("and brings one home", 1, x.helper(1, 1));
        x = Due.of("dp001;p013;p013;p013;p013;p013;p013;");
        DUE.is("a seventh one helps six", 1, x.helper(1, 0));
        DUE.is("all six", 6, x.helper(1, 1));
        DUE.is("people stay six", 6, x.count(1));
        x.changes(0, 2, 9);
        DUE.is("a seventh one has MOOD 9 too", 6, x.helper(1, 1));
        x = Due.of("p445;");
        DUE.is("helper(30, 0) where none is needed", 0, x.helper(30, 0));
        DUE.is("helper(30, 1) where none is needed", 1, x.helper(30, 1));
        x = new DoorsOneSide();
        DUE.is("helper(30, 0) of nobody", 0, x.helper(30, 0));
        DUE.is("helper(30, 1) of nobody", 0, x.helper(30, 1));
    }

    private static void fewest() {
        // 1 lets 0 in if he stays; he goes off before 0 by a wedged door.
        DoorsOneSide x = Due.of("dp001;dp012;w1;p125;p015;p335;p125;");
        DUE.is("fewest(1, 1)", 0, x.fewest(1, 1));
        x = Due.of("dp001;dp012;w1;p125;p335;p015;");
        DUE.is("fewest(2, 1)", 1, x.fewest(2, 1));
        DUE.is("fewest(2, 0)", -9, x.fewest(2, 0));
        x = Due.of("db001;dp012;w1;p125;p125;p335;p125;p015;");
        DUE.is("of several the least", 3, x.fewest(4, 2));
        DUE.is("too early for a bolted door", -9, x.fewest(4, 1));
        DUE.is("one who needs nobody", 0, x.fewest(0, 1));
        DUE.is("one at home", 0, x.fewest(2, 0));
        x = Due.of("dp001;p015;");
        DUE.is("nobody can help", -9, x.fewest(0, 30));
        // He himself does not stay to be home: his GOAL is what it is.
        DUE.is("one without a way", -9, Due.of("p015;p115;").fewest(0, 5));
        // 0 and 1 together (3) do by the bolted door what 2 alone (4) does by the plain one.
        x = Due.of("db001;dp002;do013;do023;do014;do025;p145;p145;p255;p035;");
        DUE.is("the fewest are not the least bits", 4, x.fewest(3, 3));
        x.stands(2, 5);
        DUE.is("where the fewest are two", 3, x.fewest(3, 3));
        x = Due.of("dk901;dp012;w1;p120;p120;p129;p015;");
        DUE.is("the best MOOD", 4, x.fewest(3, 1));
    }

    private static void turn() {
        DoorsOneSide x = Due.of("dp010;do023;do032;p015;p115;p235;p345;");
        DUE.is("turn(0)", -9, x.turn(0));
        DUE.is("turn(1)", 0, x.turn(1));
        DUE.is("turn(30)", 0, x.turn(30));
        x = Due.of("dp023;dp010;dp010;p015;p115;");
        DUE.is("of several the least", 1, x.turn(1));
        x.turns(1);
        DUE.is("where all are home", -9, x.turn(1));
        x = Due.of("do001;dp020;dp032;p115;p225;p325;");
        DUE.is("what was tried before is as it was", -9, x.turn(1));
        x = Due.of("do010;do020;p015;p025;p025;");
        DUE.is("most, not least", 1, x.turn(1));
        DUE.is("turn(1) of no doors", -9, new DoorsOneSide().turn(1));
    }

    private static void wedge() {
        DoorsOneSide x = Due.of("dp023;dp001;p015;p235;p335;");
        DUE.is("wedge(0)", -9, x.wedge(0));
        DUE.is("wedge(1)", 1, x.wedge(1));
        DUE.is("wedge(30)", 1, x.wedge(30));
        x.wedges(1);
        DUE.is("wedge(1) where it is", -9, x.wedge(1));
        x = Due.of("dp001;dp012;p025;");
        DUE.is("both would be needed: each is tried alone", -9, x.wedge(2));
        x = Due.of("dp045;dp001;dp001;p015;");
        DUE.is("of several the least", 1, x.wedge(1));
        x = Due.of("dp001;dp002;p015;p025;p025;");
        DUE.is("most: one lets the others in", 0, x.wedge(0) + 9);
        DUE.is("most, not least", 1, x.wedge(1));
        DUE.is("wedge(1) of no doors", -9, new DoorsOneSide().wedge(1));
    }

    private static void holds() {
        DoorsOneSide x = Due.of("dp001;dp001;p335;p115;p015;p015;");
        DUE.is("holds(0, 0)", 0, x.holds(0, 0));
        DUE.is("holds(0, 1)", 1, x.holds(0, 1));
        DUE.is("holds(1, 0)", 1, x.holds(1, 0));
        DUE.is("holds(1, 1)", 1, x.holds(1, 1));
        x = Due.of("dk901;p770;p119;p015;");
        DUE.is("the others keep their MOODS", 1, x.holds(1, 0));
        DUE.is("one is home without him", 1, x.holds(1, 1));
        x = Due.of("p115;p225;");
        DUE.is("of two at home the least", 0, x.holds(30, 0));
        DUE.is("the other is counted once", 1, x.holds(30, 1));
        x = Due.of("p015;p115;p125;");
        DUE.is("who is home", 1, x.holds(5, 0));
        DUE.is("leaves none", 0, x.holds(5, 1));
        x = Due.of("p015;");
        DUE.is("of one", 0, x.holds(5, 0));
        DUE.is("none left", 0, x.holds(5, 1));
        x = new DoorsOneSide();
        DUE.is("holds(5, 0) of nobody", -9, x.holds(5, 0));
        DUE.is("holds(5, 1) of nobody", -9, x.holds(5, 1));
    }

    private static void two() {
        // Each would be let in by the other: who goes first is in, the other is shut out.
        DoorsOneSide x = Due.of("dp001;dp010;p019;p109;");
        DUE.is("two(0, 1, 1)", 0, x.two(0, 1, 1));
        DUE.is("two(1, 0, 1)", 0, x.two(1, 0, 1));
        // He who cannot come home had better stay and keep his MOOD of 5.
        x = Due.of("dp001;p015;p228;");
        DUE.is("the first stays", 10, x.two(0, 1, 5));
        DUE.is("the other stays", 1, x.two(1, 0, 5));
        DUE.is("two(0, 1, 1): 4 by 4 is as much as 5 by 4", 0, x.two(0, 1, 1));
        x = Due.of("p015;p018;");
        DUE.is("both stay", 11, x.two(0, 1, 30));
        DUE.is("two(0, 1, 0)", 0, x.two(0, 1, 0));
        // A MOOD of 9 is less (2) than to be home (3).
        x = Due.of("do001;p019;p229;");
        DUE.is("home is more than MOOD", 0, x.two(0, 1, 1));
    }

    /** By trial over many towns: a pair none of which either would leave, or none at all. */
    private static void noTwo() {
        int without = 0;
        java.util.Random lot = new java.util.Random(5);
        for (int i = 0; i < 20000 && without < 3; i++) {
            StringBuilder text = new StringBuilder();
            for (int d = 0; d < 6; d++) {
                int from = lot.nextInt(4);
                text.append('d').append("pskcob".charAt(lot.nextInt(6))).append(lot.nextInt(10))
                    .append(from).append((from + 1 + lot.nextInt(3)) % 4).append(';');
            }
            for (int p = 0; p < 3; p++) {
                text.append('p').append(lot.nextInt(4)).append(lot.nextInt(4)).append(lot.nextInt(10)).append(';');
            }
            if (Due.of(text.toString()).two(0, 1, 6) == -9) {
                without++;
                DUE.is(text + " by trial", -9, twoByTrial(text.toString(), 6));
            }
        }
        DUE.is("towns without such a pair", 3, without);
    }

    private static int twoByTrial(String text, int n) {
        int[][] gains = new int[4][];
        for (int pair = 0; pair < 4; pair++) {
            DoorsOneSide x = Due.of(text);
            int[] goals = {x.person(0, 1), x.person(1, 1)};
            if (pair >= 2) {
                x.wants(0, x.person(0, 0));
            }
            if (pair % 2 == 1) {
                x.wants(1, x.person(1, 0));
            }
            x.hours(n);
            gains[pair] = new int[] {
                x.person(0, 0) == goals[0] ? 3 : x.person(0, 2) / 4,
                x.person(1, 0) == goals[1] ? 3 : x.person(1, 2) / 4};
        }
        for (int pair = 0; pair < 4; pair++) {
            if (gains[pair][0] >= gains[(pair + 2) % 4][0] && gains[pair][1] >= gains[pair ^ 1][1]) {
                return pair / 2 * 10 + pair % 2;
            }
        }
        return -9;
    }

    private static void refusals() {
        DoorsOneSide x = Due.of("dp001;p015;p105;");
        DUE.is("helper(-1, 2): -4 goes first", -4, x.helper(-1, 2));
        DUE.is("helper(31, 2): -6 goes next", -6, x.helper(31, 2));
        DUE.is("helper(30, 2)", -2, x.helper(30, 2));
        DUE.is("helper(0, -1)", -2, x.helper(0, -1));
        DUE.is("fewest(2, -1): -1 goes first", -1, x.fewest(2, -1));
        DUE.is("fewest(-1, 0)", -1, x.fewest(-1, 0));
        DUE.is("fewest(0, -1)", -4, x.fewest(0, -1));
        DUE.is("fewest(0, 31)", -6, x.fewest(0, 31));
        DUE.is("turn(-1)", -4, x.turn(-1));
        DUE.is("turn(31)", -6, x.turn(31));
        DUE.is("wedge(-1)", -4, x.wedge(-1));
        DUE.is("wedge(31)", -6, x.wedge(31));
        DUE.is("holds(-1, 2): -4 goes first", -4, x.holds(-1, 2));
        DUE.is("holds(31, 2): -6 goes next", -6, x.holds(31, 2));
        DUE.is("holds(30, 2)", -2, x.holds(30, 2));
        DUE.is("holds(0, -1)", -2, x.holds(0, -1));
        DUE.is("two(0, 2, -1): -1 goes first", -1, x.two(0, 2, -1));
        DUE.is("two(2, 0, 0)", -1, x.two(2, 0, 0));
        DUE.is("two(-1, 0, 0)", -1, x.two(-1, 0, 0));
        DUE.is("two(1, 1, 0)", -1, x.two(1, 1, 0));
        DUE.is("two(0, 1, -1)", -4, x.two(0, 1, -1));
        DUE.is("two(0, 1, 31)", -6, x.two(0, 1, 31));
        DUE.is("-1 counted", 6, x.count(11));
        DUE.is("-2 counted", 4, x.count(12));
        DUE.is("-4 counted", 6, x.count(14));
        DUE.is("-6 counted", 6, x.count(16));
    }

    private static void nothingChanges() {
        DoorsOneSide x = Due.of("dp001;do012;p025;p105;p349;");
        x.helper(30, 0);
        x.fewest(0, 30);
        x.turn(30);
        x.wedge(30);
        x.holds(30, 0);
        x.two(0, 1, 30);
        DUE.is("HOUR", 0, x.count(2));
        DUE.is("LET", 0, x.count(3));
        DUE.is("PEOPLE", 3, x.count(1));
        DUE.is("MOODS", 19, x.count(5));
        DUE.is("GOAL", 2, x.person(0, 1));
        DUE.is("ROOM", 1, x.person(1, 0));
        DUE.is("from", 0, x.door(0, 2));
        DUE.is("wedged", 0, x.door(1, 4));
    }
}
