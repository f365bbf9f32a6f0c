/** The edges of promises 23 to 31: what is tried, where all are, and two who stay or go. */
public final class TryBoundTest {
    private static final Due DUE = new Due("TryBoundTest");
    private static final String ALL_BY_30 = "ds901;ds912;ds923;ds934;ds945;ds956;p069;p115;p225;p335;p445;p555;";

    public static void main(String[] args) {
        helperBehind0To30();
        helperOfNobody();
        helperOfSix();
        helperInTheFirstAndTheLastRoom();
        fewestBehind0To30();
        fewestFromNoneToMany();
        fewestIsNone();
        turnBehind0To30();
        turnIsNone();
        turnOfTheFirstAndTheLastDoor();
        wedgeBehind0To30();
        wedgeIsNone();
        wedgeOfTheFirstAndTheLastDoor();
        holdsBehind0To30();
        holdsFromNobodyToSix();
        crowdFromNobodyToSix();
        emptyAndDeadFromNoneToAll();
        handlesFromNoneToAll();
        meetFromNobodyToSix();
        meetIsNone();
        twoBehind0To30();
        twoOfOneTwice();
        twoIsNone();
        moodByFourCut();
        DUE.end();
    }

    /** "n HOURS (0 .. 30)": by five who let him in, and the HELPER in 6, it takes 30. */
    private static void helperBehind0To30() {
        DoorsOneSide x = Due.of(ALL_BY_30);
        DUE.is("helper(-1, 0)", -4, x.helper(-1, 0));
        DUE.is("helper(0, 0)", 0, x.helper(0, 0));
        DUE.is("helper(0, 1)", 5, x.helper(0, 1));
        DUE.is("helper(29, 0)", 0, x.helper(29, 0));
        DUE.is("helper(29, 1)", 5, x.helper(29, 1));
        DUE.is("helper(30, 0)", 6, x.helper(30, 0));
        DUE.is("helper(30, 1)", 6, x.helper(30, 1));
        DUE.is("helper(31, 0)", -6, x.helper(31, 0));
        DUE.is("helper(30, 2)", -2, x.helper(30, 2));
        DUE.is("helper(30, -1)", -2, x.helper(30, -1));
        DUE.is("HOUR stays", 0, x.count(2));
    }

    private static void helperOfNobody() {
        DoorsOneSide x = new DoorsOneSide();
        DUE.is("helper(0, 0)", 0, x.helper(0, 0));
        DUE.is("helper(30, 1), he not counted", 0, x.helper(30, 1));
        DUE.is("nobody comes by it", 0, x.count(1));
    }

    /** "one more (MOOD 9 ..)": there is one more than six in thought. */
    private static void helperOfSix() {
        DoorsOneSide x = Due.of("dk901;p010;p010;p010;p010;p010;p010;");
        DUE.is("helper(1, 0)", 1, x.helper(1, 0));
        DUE.is("helper(1, 1)", 6, x.helper(1, 1));
        DUE.is("PEOPLE stay six", 6, x.count(1));
        DUE.is("a seventh is nobody", -1, x.person(6, 0));
        DUE.is("the next town knows nothing of him", -2000, Due.tell(x, "g60;"));
    }

    private static void helperInTheFirstAndTheLastRoom() {
        DoorsOneSide x = Due.of("dp070;dp017;p705;p775;");
        DUE.is("the first ROOM", 0, x.helper(1, 0));
        DUE.is("one comes, one is there", 2, x.helper(1, 1));
        x = Due.of("dp070;dp017;p775;p175;");
        DUE.is("of several the least: one is there who lets in", 0, x.helper(1, 0));
        x.stands(0, 6);
        DUE.is("the last ROOM", 7, x.helper(1, 0));
        DUE.is("one comes", 1, x.helper(1, 1));
    }

    /** "behind n HOURS (0 .. 30)": 30 HOURS from now he is home, not before. */
    private static void fewestBehind0To30() {
        DoorsOneSide x = MindBoundTest.longTown();
        x.hours(30);
        DUE.is("fewest(1, -1)", -4, x.fewest(1, -1));
        DUE.is("fewest(1, 0)", -9, x.fewest(1, 0));
        DUE.is("fewest(1, 29)", -9, x.fewest(1, 29));
        DUE.is("fewest(1, 30)", 0, x.fewest(1, 30));
        DUE.is("fewest(1, 31)", -6, x.fewest(1, 31));
        DUE.is("fewest(5, 0)", 0, x.fewest(5, 0));
        DUE.is("fewest(6, 0)", -1, x.fewest(6, 0));
        DUE.is("fewest(-1, 0)", -1, x.fewest(-1, 0));
    }

    /** Four who would go away before the last one comes must all stay. */
    private static void fewestFromNoneToMany() {
        DoorsOneSide x = Due.of("dp001;dp012;dp023;dp034;do017;do027;do037;do047;p175;p275;p375;p475;p775;p045;");
        DUE.is("fewest(5, 3)", -9, x.fewest(5, 3));
        DUE.is("fewest(5, 4)", 15, x.fewest(5, 4));
        DUE.is("fewest(5, 30)", 15, x.fewest(5, 30));
        DUE.is("nobody need stay", 0, x.fewest(0, 1));
        // Told the other way round: he is the first, and those who stay are the last.
        x = Due.of("do017;dp001;p015;p775;p775;p775;p775;p175;h01;r51;");
        x.stands(0, 0);
        x.wants(0, 1);
        DUE.is("the first goes before the last one does", 0, x.fewest(0, 1));
        x.stands(0, 7);
        DUE.is("one without a WAY", -9, x.fewest(0, 30));
        x = Due.of("db001;do017;p015;p775;p775;p775;p175;p175;");
        DUE.is("the last two of six", 48, x.fewest(0, 2));
    }

    /** "-9": alone, and where he himself would have to stay. */
    private static void fewestIsNone() {
        DoorsOneSide x = Due.of("dp001;p015;");
        DUE.is("alone", -9, x.fewest(0, 30));
        DUE.is("alone behind 0", -9, x.fewest(0, 0));
        x.wants(0, 0);
        DUE.is("alone at home", 0, x.fewest(0, 30));
        DUE.is("he is another one", -9, Due.of("p015;p115;p115;").fewest(0, 30));
        DUE.is("nothing is refused", 0, x.count(11) + x.count(14) + x.count(16));
    }

    /** The handle of DOOR 1 is on the wrong side: with it changed the one behind it is home 30 HOURS on. */
    private static void turnBehind0To30() {
        DoorsOneSide x = MindBoundTest.longTown();
        x.turns(1);
        x.hours(30);
        DUE.is("turn(-1)", -4, x.turn(-1));
        DUE.is("turn(0)", -9, x.turn(0));
        DUE.is("turn(29)", -9, x.turn(29));
        DUE.is("turn(30)", 1, x.turn(30));
        DUE.is("turn(31)", -6, x.turn(31));
        DUE.is("the handle stays", 4, x.door(1, 3));
    }

    private static void turnIsNone() {
        DUE.is("no DOORS", -9, new DoorsOneSide().turn(30));
        DUE.is("nobody", -9, Due.of("do001;").turn(30));
        DUE.is("all are home", -9, Due.of("do001;p115;p005;").turn(30));
        DUE.is("as many, not more", -9, Due.of("do001;p015;p105;").turn(1));
        DUE.is("fewer", -9, Due.of("do001;p015;").turn(1));
    }

    private static void turnOfTheFirstAndTheLastDoor() {
        DUE.is("the first", 0, Due.of("do010;dp023;dp023;dp023;dp023;dp023;dp023;dp023;dp023;p015;").turn(1));
        DUE.is("the last", 8, Due.of("dp023;dp023;dp023;dp023;dp023;dp023;dp023;dp023;do010;p015;").turn(1));
        DUE.is("of several the least", 7, Due.of("dp023;dp023;dp023;dp023;dp023;dp023;dp023;do010;do010;p015;").turn(1));
        DUE.is("the last brings most", 2, Due.of("do010;do010;do020;p015;p025;p025;").turn(1));
    }

    /**
     * DOOR 4, into 1, is shut, and 1 wants nothing more: WEDGED, DOOR 0 brings 0 home, and no other; DOOR 4
     * brings 5 home, who lets 0 in, so that he too is home 30 HOURS on.
     */
    private static void wedgeBehind0To30() {
        DoorsOneSide x = MindBoundTest.longTown();
        x.wants(1, 4);
        x.changes(4, 0, 0);
        x.hours(6);
        DUE.is("wedge(-1)", -4, x.wedge(-1));
        DUE.is("wedge(0)", -9, x.wedge(0));
        DUE.is("wedge(29)", 0, x.wedge(29));
        DUE.is("wedge(30)", 4, x.wedge(30));
        DUE.is("wedge(31)", -6, x.wedge(31));
        DUE.is("it is not WEDGED by it", 0, x.door(4, 4));
    }

    private static void wedgeIsNone() {
        DUE.is("no DOORS", -9, new DoorsOneSide().wedge(30));
        DUE.is("nobody", -9, Due.of("dp001;").wedge(30));
        DUE.is("all are home", -9, Due.of("dp001;p115;").wedge(30));
        DUE.is("as many, not more", -9, Due.of("do001;p015;").wedge(1));
        DUE.is("it is WEDGED", -9, Due.of("dp001;w0;p015;").wedge(1));
        DUE.is("the wrong way", -9, Due.of("dp010;p015;").wedge(30));
    }

    private static void wedgeOfTheFirstAndTheLastDoor() {
        DUE.is("the first", 0, Due.of("dp001;dp023;dp023;dp023;dp023;dp023;dp023;dp023;dp023;p015;").wedge(1));
        DUE.is("the last", 8, Due.of("dp023;dp023;dp023;dp023;dp023;dp023;dp023;dp023;dp001;p015;").wedge(1));
        DUE.is("of several the least", 7, Due.of("dp023;dp023;dp023;dp023;dp023;dp023;dp023;dp001;dp001;p015;").wedge(1));
    }

    /** Without 4, who sits in 6, neither 0 nor 1 comes home; without 0 or another one of those who let in, 1. */
    private static void holdsBehind0To30() {
        DoorsOneSide x = MindBoundTest.longTown();
        x.hours(30);
        DUE.is("holds(-1, 0)", -4, x.holds(-1, 0));
        DUE.is("holds(0, 0), who is home", 2, x.holds(0, 0));
        DUE.is("holds(0, 1)", 3, x.holds(0, 1));
        DUE.is("holds(30, 0)", 4, x.holds(30, 0));
        DUE.is("holds(30, 1)", 3, x.holds(30, 1));
        DUE.is("holds(31, 0)", -6, x.holds(31, 0));
        DUE.is("holds(30, 2)", -2, x.holds(30, 2));
        DUE.is("holds(30, -1)", -2, x.holds(30, -1));
        DUE.is("PEOPLE stay", 6, x.count(1));
    }

    private static void holdsFromNobodyToSix() {
        DoorsOneSide x = new DoorsOneSide();
        DUE.is("nobody: who", -9, x.holds(0, 0));
        DUE.is("nobody: how many", -9, x.holds(30, 1));
        x = Due.of("p115;");
        DUE.is("one: who", 0, x.holds(0, 0));
        DUE.is("one: how many of the others", 0, x.holds(30, 1));
        x = Due.of("p115;p115;p115;p115;p115;p115;");
        DUE.is("six at home: of several the least", 0, x.holds(30, 0));
        DUE.is("six at home: the other five", 5, x.holds(30, 1));
        x = Due.of("dp001;p015;p015;p015;p015;p015;p115;");
        DUE.is("the last one: who", 5, x.holds(1, 0));
        DUE.is("the last one: nobody is home without him", 0, x.holds(1, 1));
    }

    /** CROWD: "of several the least". */
    private static void crowdFromNobodyToSix() {
        DoorsOneSide x = new DoorsOneSide();
        DUE.is("nobody: where", 0, x.crowd(0));
        DUE.is("nobody: how many", 0, x.crowd(1));
        x = Due.of("p705;p705;p705;p705;p705;p705;");
        DUE.is("six: where", 7, x.crowd(0));
        DUE.is("six: how many", 6, x.crowd(1));
        x.stands(0, 6);
        x.stands(1, 6);
        x.stands(2, 6);
        DUE.is("three and three: where", 6, x.crowd(0));
        DUE.is("three and three: how many", 3, x.crowd(1));
        x = Due.of("p005;p115;p225;p335;p445;p555;");
        DUE.is("one each: where", 0, x.crowd(0));
        DUE.is("one each: how many", 1, x.crowd(1));
        DUE.is("crowd(-1)", -2, x.crowd(-1));
        DUE.is("crowd(4)", -2, x.crowd(4));
    }

    private static void emptyAndDeadFromNoneToAll() {
        DoorsOneSide x = new DoorsOneSide();
        DUE.is("EMPTY: all", 255, x.crowd(2));
        DUE.is("DEAD: all", 255, x.crowd(3));
        x = Due.of("p005;p115;p225;p335;p445;p775;");
        DUE.is("EMPTY: 5 and 6", 96, x.crowd(2));
        x = Due.of("dp001;dp012;dp023;dp034;dp045;dp056;dp067;");
        DUE.is("DEAD: the last ROOM", 128, x.crowd(3));
        Due.tell(x, "dp070;");
        DUE.is("DEAD: none", 0, x.crowd(3));
        x.turns(0);
        DUE.is("DEAD: the first ROOM", 1, x.crowd(3));
        x.wedges(1);
        DUE.is("DEAD: WEDGED or not", 1, x.crowd(3));
    }

    private static void handlesFromNoneToAll() {
        DUE.is("no DOORS", 0, new DoorsOneSide().handles(0));
        DoorsOneSide x = Due.of("dp017;".repeat(9));
        DUE.is("handles(7) of nine", 511, x.handles(7));
        DUE.is("handles(1) of none", 0, x.handles(1));
        x.turns(8);
        DUE.is("handles(1) of the last", 256, x.handles(1));
        x.turns(0);
        DUE.is("handles(1) of the first too", 257, x.handles(1));
        DUE.is("handles(0)", 0, x.handles(0));
        DUE.is("handles(8)", -1, x.handles(8));
        DUE.is("handles(-1)", -1, x.handles(-1));
    }

    private static void meetFromNobodyToSix() {
        DoorsOneSide x = new DoorsOneSide();
        DUE.is("nobody: where", 0, x.meet(0));
        DUE.is("nobody: how many", 0, x.meet(1));
        x = Due.of("p705;");
        DUE.is("one: where he is", 7, x.meet(0));
        DUE.is("one: no DOORS", 0, x.meet(1));
        x = Due.of("dp001;dp012;dp023;dp034;dp045;dp056;dp067;p000;p000;p000;p000;p000;p770;");
        DUE.is("six: where", 7, x.meet(0));
        DUE.is("six: seven DOORS of five", 35, x.meet(1));
        x = Due.of("dp023;dp032;p205;p305;");
        DUE.is("of several the least", 2, x.meet(0));
        DUE.is("over one", 1, x.meet(1));
        DUE.is("meet(-1)", -2, x.meet(-1));
        DUE.is("meet(2)", -2, x.meet(2));
    }

    private static void meetIsNone() {
        DoorsOneSide x = Due.of("dp001;dp002;p105;p205;");
        DUE.is("where", -9, x.meet(0));
        DUE.is("how many", -9, x.meet(1));
        x = Due.of("p005;p105;p005;p005;p005;p005;");
        DUE.is("where, of six", -9, x.meet(0));
        DUE.is("how many, of six", -9, x.meet(1));
        DUE.is("nothing is refused", 0, x.count(12));
    }

    /** 1 is home 30 HOURS on, if he goes; if he stays he keeps MOOD 9, which by 4, cut, is 2. */
    private static void twoBehind0To30() {
        DoorsOneSide x = MindBoundTest.longTown();
        x.hours(30);
        x.moods(1, 9);
        DUE.is("two(1, 2, -1)", -4, x.two(1, 2, -1));
        DUE.is("two(1, 2, 0): as much either way", 0, x.two(1, 2, 0));
        DUE.is("two(1, 2, 29): he had best stay", 10, x.two(1, 2, 29));
        DUE.is("two(2, 1, 29): told the other way round", 1, x.two(2, 1, 29));
        DUE.is("two(1, 2, 30): he had best go", 0, x.two(1, 2, 30));
        DUE.is("two(1, 2, 31)", -6, x.two(1, 2, 31));
        DUE.is("two(5, 0, 30): the last and the first", 0, x.two(5, 0, 30));
    }

    /** "-1 either (one twice, too)". */
    private static void twoOfOneTwice() {
        DoorsOneSide x = Due.of("p015;p015;p015;p015;p015;p015;");
        DUE.is("two(0, 0, 0)", -1, x.two(0, 0, 0));
        DUE.is("two(5, 5, 30)", -1, x.two(5, 5, 30));
        DUE.is("two(5, 6, 0)", -1, x.two(5, 6, 0));
        DUE.is("two(6, 5, 0)", -1, x.two(6, 5, 0));
        DUE.is("two(0, -1, 0)", -1, x.two(0, -1, 0));
        DUE.is("two(-1, 0, 0)", -1, x.two(-1, 0, 0));
        DUE.is("two(0, 5, 30): both stay", 11, x.two(0, 5, 30));
        DUE.is("two of nobody", -1, new DoorsOneSide().two(0, 1, 0));
    }

    /**
     * Behind 3 HOURS they have 3 and 1 if both go (he lets the first in, and none lets him), 0 and 2 if the other
     * stays, 1 and 3 if the first stays and lets the other in, 1 and 2 if both stay: one of them always has more by
     * another one alone.
     */
    private static void twoIsNone() {
        DoorsOneSide x = Due.of("dp631;dc423;ds113;p135;p218;");
        DUE.is("two(0, 1, 3)", -9, x.two(0, 1, 3));
        DUE.is("two(1, 0, 3)", -9, x.two(1, 0, 3));
        DUE.is("two(0, 1, 0)", 0, x.two(0, 1, 0));
        DUE.is("nothing is refused", 0, x.count(11));
        DUE.is("GOAL stays", 3, x.person(0, 1));
    }

    /** "his MOOD by 4, cut": who waits an HOUR from MOOD 4 or 8 has 1 less than who stays; from 5, 7 or 9 as much. */
    private static void moodByFourCut() {
        int[] pairs = {0, 0, 0, 0, 11, 0, 0, 0, 11, 0};
        for (int mood = 0; mood <= 9; mood++) {
            DoorsOneSide x = Due.of("dp001;p01" + mood + ";p01" + mood + ";");
            DUE.is("two(0, 1, 1) with MOOD " + mood, pairs[mood], x.two(0, 1, 1));
        }
        // A MOOD of 9 has 2, to be home 3.
        DUE.is("he had best go", 0, Due.of("do001;p019;p779;").two(0, 1, 1));
    }
}
