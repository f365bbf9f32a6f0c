/** The edges of promises 13 to 22: what comes in mind, and ways by doors. */
public final class MindBoundTest {
    private static final Due DUE = new Due("MindBoundTest");
    /**
     * 2, 3 and 4 sit in 0, 5 and 6 and let the others through by stiff doors, an HOUR in five: 5 by 15 and into 1
     * in 17, who lets 0 in in 20; he is in 7 in 36, and lets 1 in in 40, who is home in 60.
     */
    private static final String LONG_DOORS = "ds921;ds947;do967;ds930;dc061;do972;ds910;ds905;ds956;";
    private static final String LONG_PEOPLE = "p279;p469;p009;p559;p669;p319;";
    /**
     * Found by a search: 1 and 3 sit in 0 and 2. 2 is home in 7 behind 14 HOURS, and lets 5 through, who is home in 1
     * behind 26 and lets 4 through, who is home in 4 behind 46 and lets 0 through, who is home in 1 behind 61.
     */
    private static final String LATER_DOORS = "h15;dc924;dc947;ds930;dc173;ds902;ds917;dc921;ds961;ds554;";
    private static final String LATER_PEOPLE = "p519;p003;p379;p229;p645;p519;";

    public static void main(String[] args) {
        behindNoHour();
        behind60Hours();
        letBehind0And60();
        comesBehind0To60();
        homeBehind0To60();
        allHomeBehind0To60();
        neverHome();
        shutInFromNobodyToAll();
        stuckFrom0To60();
        stillFor12Hours();
        laterThan60IsNone();
        inThoughtHourPasses999();
        wayFrom0To7();
        wayIsNone();
        roundFrom2To8();
        reachItselfToo();
        openFromNoneToAll();
        openForSomebody();
        DUE.end();
    }

    static DoorsOneSide longTown() {
        DoorsOneSide x = Due.of(LONG_DOORS);
        Due.tell(x, LONG_PEOPLE);
        return x;
    }

    private static DoorsOneSide laterTown() {
        DoorsOneSide x = Due.of(LATER_DOORS);
        Due.tell(x, LATER_PEOPLE);
        return x;
    }

    /** "n HOURS on (0 .. 60)": behind 0 all is as it is. */
    private static void behindNoHour() {
        DoorsOneSide x = Due.of("do001;p019;p775;");
        DUE.is("ROOM behind 0", 0, x.personThen(0, 0, 0));
        DUE.is("MOOD behind 0", 9, x.personThen(0, 0, 1));
        DUE.is("ROOM behind 1", 1, x.personThen(0, 1, 0));
        DUE.is("the last one's ROOM", 7, x.personThen(1, 60, 0));
        DUE.is("the last one's MOOD", 5, x.personThen(1, 60, 1));
        DUE.is("behind -1", -4, x.personThen(0, -1, 0));
        DUE.is("another one", -1, x.personThen(2, 0, 0));
    }

    private static void behind60Hours() {
        DoorsOneSide x = longTown();
        DUE.is("ROOM behind 59", 5, x.personThen(1, 59, 0));
        DUE.is("ROOM behind 60", 6, x.personThen(1, 60, 0));
        DUE.is("behind 61", -6, x.personThen(1, 61, 0));
        DUE.is("what 2", -2, x.personThen(1, 60, 2));
        DUE.is("what -1", -2, x.personThen(1, 60, -1));
        DUE.is("MOOD behind 8", 1, x.personThen(1, 8, 1));
        DUE.is("MOOD behind 9", 0, x.personThen(1, 9, 1));
        DUE.is("MOOD behind 60", 0, x.personThen(1, 60, 1));
    }

    /** Promise 14: "-4; -6 60". */
    private static void letBehind0And60() {
        DoorsOneSide x = longTown();
        DUE.is("letThen(-1)", -4, x.letThen(-1));
        DUE.is("letThen(0)", 0, x.letThen(0));
        DUE.is("letThen(4)", 0, x.letThen(4));
        DUE.is("letThen(5)", 1, x.letThen(5));
        DUE.is("letThen(59)", 14, x.letThen(59));
        DUE.is("letThen(60)", 15, x.letThen(60));
        DUE.is("letThen(61)", -6, x.letThen(61));
        DUE.is("LET stays", 0, x.count(3));
        DUE.is("HOUR stays", 0, x.count(2));
    }

    /** "behind how many HOURS (0 .. 60) one is in a ROOM first; -9". */
    private static void comesBehind0To60() {
        DoorsOneSide x = longTown();
        DUE.is("where he is", 0, x.comes(1, 4));
        DUE.is("the last ROOM", 40, x.comes(1, 7));
        DUE.is("behind 55", 55, x.comes(1, 5));
        DUE.is("behind 60", 60, x.comes(1, 6));
        DUE.is("ROOM 0, of the first one", 25, x.comes(0, 0));
        DUE.is("where he never comes", -9, x.comes(1, 3));
        DUE.is("where the first is no more, but was", 0, x.comes(0, 2));
        x.hours(1);
        DUE.is("an HOUR later behind 59", 59, x.comes(1, 6));
        DUE.is("ROOM 8", -1, x.comes(1, 8));
        DUE.is("ROOM -1", -1, x.comes(1, -1));
        DUE.is("one 6", -1, x.comes(6, 0));
    }

    /** Promise 16: "HOME; -9". */
    private static void homeBehind0To60() {
        DoorsOneSide x = longTown();
        int[] home = {36, 60, 0, 0, 0, 17};
        for (int p = 0; p < 6; p++) {
            DUE.is("home(" + p + ")", home[p], x.home(p));
        }
        DUE.is("home(6)", -1, x.home(6));
        DUE.is("home(-2)", -1, x.home(-2));
    }

    /** "ALL HOME (person -1; -9)": with nobody all are. */
    private static void allHomeBehind0To60() {
        DoorsOneSide x = longTown();
        DUE.is("home(-1)", 60, x.home(-1));
        x.hours(59);
        DUE.is("home(-1) an HOUR before", 1, x.home(-1));
        x.hours(1);
        DUE.is("home(-1) then", 0, x.home(-1));
        DUE.is("home(-1) of nobody", 0, new DoorsOneSide().home(-1));
        DUE.is("home(-1) is not refused", 0, x.count(11));
    }

    private static void neverHome() {
        DoorsOneSide x = Due.of("dp001;p015;p775;");
        DUE.is("home(0)", -9, x.home(0));
        DUE.is("home(1)", 0, x.home(1));
        DUE.is("home(-1)", -9, x.home(-1));
        DUE.is("comes(0, 1)", -9, x.comes(0, 1));
        DUE.is("without a WAY", -9, Due.of("p015;").home(0));
        DUE.is("-9 is not refused", 0, x.count(11));
    }

    /** SHUT IN: "PEOPLE (bits) not in their GOAL with no WAY to it". */
    private static void shutInFromNobodyToAll() {
        DUE.is("nobody", 0, new DoorsOneSide().shutIn());
        DUE.is("all six", 63, Due.of("dp010;p015;p025;p035;p045;p055;p065;").shutIn());
        DUE.is("none of six", 0, Due.of("dp001;p015;p015;p115;p005;p775;p015;").shutIn());
        DUE.is("the last one", 32, Due.of("dp001;p005;p005;p005;p015;p005;p105;").shutIn());
        DUE.is("the first one", 1, Due.of("dp001;p105;p005;p005;p015;p005;p015;").shutIn());
        DUE.is("a WAY of seven DOORS", 0, Due.of("dp001;dp012;dp023;dp034;dp045;dp056;dp067;p075;").shutIn());
    }

    /** "the least n (0 .. 60) behind which nobody goes anywhere in 12 HOURS". */
    private static void stuckFrom0To60() {
        DUE.is("nobody", 0, new DoorsOneSide().stuck());
        DUE.is("all home", 0, Due.of("do001;p115;").stuck());
        DUE.is("one who waits for ever", 0, Due.of("dp001;p015;").stuck());
        DUE.is("one who goes once", 1, Due.of("do001;p015;").stuck());
        DoorsOneSide x = longTown();
        DUE.is("60", 60, x.stuck());
        x.hours(1);
        DUE.is("an HOUR later", 59, x.stuck());
        x.hours(59);
        DUE.is("then", 0, x.stuck());
    }

    /** "in 12 HOURS": fewer in which nobody goes are not enough, where somebody goes behind them. */
    private static void stillFor12Hours() {
        DUE.is("one by a stiff door", 5, Due.of("ds901;p015;p115;").stuck());
        DUE.is("one by two stiff doors", 10, Due.of("ds901;ds912;p025;p115;p225;").stuck());
        DUE.is("one at once, one later", 4, Due.of("ds601;do023;p015;p115;p235;").stuck());
        DoorsOneSide x = Due.of("ds901;p015;p115;h01;");
        DUE.is("four still HOURS first", 4, x.stuck());
    }

    /** "(0 .. 60)", "-9": what comes behind 61 is not looked for, and behind 60, an HOUR later, it is. */
    private static void laterThan60IsNone() {
        DoorsOneSide x = laterTown();
        DUE.is("ROOM behind 60", 2, x.personThen(0, 60, 0));
        DUE.is("COMES behind 60", 60, x.comes(0, 2));
        DUE.is("COMES behind 61", -9, x.comes(0, 1));
        DUE.is("HOME behind 61", -9, x.home(0));
        DUE.is("HOME behind 46", 46, x.home(4));
        DUE.is("ALL HOME behind 61", -9, x.home(-1));
        DUE.is("STUCK behind 61", -9, x.stuck());
        DUE.is("LET behind 60", 21, x.letThen(60));
        DUE.is("nothing is refused", 0, x.count(11) + x.count(14) + x.count(16));
        x.hours(1);
        DUE.is("COMES behind 60 then", 60, x.comes(0, 1));
        DUE.is("HOME behind 60 then", 60, x.home(0));
        DUE.is("ALL HOME behind 60 then", 60, x.home(-1));
        DUE.is("STUCK behind 60 then", 60, x.stuck());
        DUE.is("LET behind 60 then", 22, x.letThen(60));
        DUE.is("all are home behind 60", 6, x.hours(60));
    }

    /** "(In thought HOUR may pass 999.)" */
    private static void inThoughtHourPasses999() {
        DoorsOneSide x = new DoorsOneSide();
        Due.tell(x, "h60;".repeat(16) + "h39;");
        Due.tell(x, "ds901;ds302;ds603;dc004;p015;p025;p035;p045;");
        Due.tell(x, "p445;");
        x.stands(4, 1);
        DUE.is("a fifth HOUR is 1000", 1, x.home(0));
        x.stands(4, 2);
        DUE.is("a third HOUR is 1002", 3, x.home(1));
        x.stands(4, 3);
        DUE.is("a fourth HOUR is 1000", 1, x.home(2));
        DUE.is("an odd HOUR is 1001", 2, x.home(3));
        x.stands(4, 5);
        for (int p = 0; p < 3; p++) {
            DUE.is("nobody lets him in", -9, x.home(p));
        }
        DUE.is("OPEN in 1000", 0, x.open());
        x.stands(4, 1);
        DUE.is("OPEN in 1000 with one in 1", 1, x.open());
        DUE.is("NEXT in 1000", 0, x.person(0, 3));
        DUE.is("LET behind 60", 2, x.letThen(60));
        DUE.is("stuck()", 2, x.stuck());
        DUE.is("HOUR stays", 999, x.count(2));
        DUE.is("hours(1)", -6, x.hours(1));
        DUE.is("ROOM stays", 0, x.person(0, 0));
    }

    /** WAY: "how many DOORS from a ROOM to a ROOM", 0 from one to itself, 7 at most. */
    private static void wayFrom0To7() {
        DoorsOneSide x = Due.of("dp067;dp056;dp045;dp034;dp023;dp012;dp001;dp007;dp007;t7;t8;");
        for (int other = 0; other < 8; other++) {
            DUE.is("way(0, " + other + ", 0)", other, x.way(0, other, 0));
            DUE.is("way(0, " + other + ", 1)", other == 0 ? -9 : 6, x.way(0, other, 1));
        }
        DUE.is("way(7, 0, 0)", 1, x.way(7, 0, 0));
        DUE.is("way(7, 0, 1), the least", 7, x.way(7, 0, 1));
        DUE.is("way(7, 6, 0)", 7, x.way(7, 6, 0));
        x.turns(7);
        DUE.is("way(7, 0, 1), the last DOOR", 8, x.way(7, 0, 1));
        DUE.is("way(0, 7, 1), DOOR 7", 7, x.way(0, 7, 1));
        DUE.is("way(6, 7, 1), DOOR 0", 0, x.way(6, 7, 1));
    }

    private static void wayIsNone() {
        DoorsOneSide x = Due.of("dp001;");
        DUE.is("way(1, 0, 0)", -9, x.way(1, 0, 0));
        DUE.is("way(1, 0, 1)", -9, x.way(1, 0, 1));
        DUE.is("way(7, 6, 0)", -9, x.way(7, 6, 0));
        DUE.is("way(7, 7, 0)", 0, x.way(7, 7, 0));
        DUE.is("way(7, 7, 1)", -9, x.way(7, 7, 1));
        DUE.is("way(0, 1, 0) of no DOORS", -9, new DoorsOneSide().way(0, 1, 0));
        DUE.is("way(0, 0, 1) of no DOORS", -9, new DoorsOneSide().way(0, 0, 1));
        DUE.is("-9 is not refused", 0, x.count(11) + x.count(12));
    }

    /** ROUND: "the fewest DOORS from a ROOM back to it, 1 at least; -9": no DOOR leads into where it comes from. */
    private static void roundFrom2To8() {
        DoorsOneSide x = Due.of("dp001;dp012;dp023;dp034;dp045;dp056;dp067;dp070;");
        for (int room = 0; room < 8; room++) {
            DUE.is("round(" + room + ") by eight", 8, x.round(room));
        }
        Due.tell(x, "dp076;");
        DUE.is("round(7) by two", 2, x.round(7));
        DUE.is("round(6) by two", 2, x.round(6));
        DUE.is("round(0) still by eight", 8, x.round(0));
        x.turns(0);
        DUE.is("round(0) with one turned", -9, x.round(0));
        DUE.is("round(0) of no DOORS", -9, new DoorsOneSide().round(0));
        DUE.is("round(0) of a way that does not come back", -9, Due.of("dp001;").round(0));
        DUE.is("round(8)", -1, x.round(8));
        DUE.is("round(-1)", -1, x.round(-1));
    }

    /** REACH: "itself too". */
    private static void reachItselfToo() {
        DoorsOneSide none = new DoorsOneSide();
        DoorsOneSide all = Due.of("dp001;dp012;dp023;dp034;dp045;dp056;dp067;dp070;");
        for (int room = 0; room < 8; room++) {
            DUE.is("reach(" + room + ") of no DOORS", 1 << room, none.reach(room));
            DUE.is("reach(" + room + ") of all", 255, all.reach(room));
        }
        DUE.is("reach(8)", -1, all.reach(8));
        DUE.is("reach(-1)", -1, all.reach(-1));
    }

    /** OPEN: DOORS (bits). */
    private static void openFromNoneToAll() {
        DUE.is("no DOORS", 0, new DoorsOneSide().open());
        DUE.is("nine that do not", 0, Due.of("dp001;".repeat(9)).open());
        DUE.is("nine that do", 511, Due.of("do001;".repeat(9)).open());
        DUE.is("the ninth", 256, Due.of("dp001;".repeat(8) + "do001;").open());
        DUE.is("the first", 1, Due.of("do001;" + "dp001;".repeat(8)).open());
    }

    /** "for somebody from where he comes (he not counted a HELPER; all as now)". */
    private static void openForSomebody() {
        DUE.is("from where nobody is", 1, Due.of("dp001;p115;").open());
        DUE.is("he who is there is no HELPER", 0, Due.of("dp001;p015;").open());
        DUE.is("by one in his GOAL or not", 1, Due.of("dp001;p175;").open());
        DoorsOneSide x = Due.of("dk501;p175;");
        DUE.is("by the MOOD as now, not in an HOUR", 1, x.open());
        x.hours(1);
        DUE.is("by the MOOD behind an HOUR", 0, x.open());
    }
}
