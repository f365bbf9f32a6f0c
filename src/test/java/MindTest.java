/** Promises 13 to 18: what comes, in mind. */
public final class MindTest {
    private static final Due DUE = new Due("MindTest");

    public static void main(String[] args) {
        personThen();
        letThen();
        comes();
        home();
        shutIn();
        stuck();
        nothingChanges();
        DUE.end();
    }

    private static DoorsOneSide chain() {
        // 0 -> 1 by a cat's door in odd hours, 1 -> 2 always; the second waits for ever.
        return Due.of("dc001;do012;dp034;p025;p349;h01;r00;");
    }

    private static void personThen() {
        DoorsOneSide x = chain();
        int[] rooms = {0, 0, 1, 2, 2};
        int[] moods = {5, 4, 4, 4, 4};
        for (int n = 0; n < 5; n++) {
            DUE.is("ROOM behind " + n, rooms[n], x.personThen(0, n, 0));
            DUE.is("MOOD behind " + n, moods[n], x.personThen(0, n, 1));
            DUE.is("MOOD of the second behind " + n, 8 - n, x.personThen(1, n, 1));
        }
        DUE.is("ROOM behind 60", 2, x.personThen(0, 60, 0));
        DUE.is("MOOD of the second behind 60", 0, x.personThen(1, 60, 1));
        DUE.is("personThen(2, -1, 2): -1 goes first", -1, x.personThen(2, -1, 2));
        DUE.is("personThen(-1, 0, 0)", -1, x.personThen(-1, 0, 0));
        DUE.is("personThen(0, -1, 2): -4 goes next", -4, x.personThen(0, -1, 2));
        DUE.is("personThen(0, 61, 2): -6 goes next", -6, x.personThen(0, 61, 2));
        DUE.is("personThen(0, 60, 2)", -2, x.personThen(0, 60, 2));
        DUE.is("personThen(0, 0, -1)", -2, x.personThen(0, 0, -1));
    }

    private static void letThen() {
        DoorsOneSide x = chain();
        int[] let = {1, 1, 2, 3, 3};
        for (int n = 0; n < 5; n++) {
            DUE.is("LET behind " + n, let[n], x.letThen(n));
        }
        DUE.is("LET behind 60", 3, x.letThen(60));
        DUE.is("letThen(-1)", -4, x.letThen(-1));
        DUE.is("letThen(61)", -6, x.letThen(61));
    }

    private static void comes() {
        DoorsOneSide x = chain();
        DUE.is("comes(0, 0)", 0, x.comes(0, 0));
        DUE.is("comes(0, 1)", 2, x.comes(0, 1));
        DUE.is("comes(0, 2)", 3, x.comes(0, 2));
        DUE.is("comes(0, 3)", -9, x.comes(0, 3));
        DUE.is("comes(1, 4)", -9, x.comes(1, 4));
        DUE.is("comes(2, 0)", -1, x.comes(2, 0));
        DUE.is("comes(-1, 0)", -1, x.comes(-1, 0));
        DUE.is("comes(0, 8)", -1, x.comes(0, 8));
        DUE.is("comes(0, -1)", -1, x.comes(0, -1));
    }

    private static void home() {
        DoorsOneSide x = chain();
        DUE.is("home(0)", 3, x.home(0));
        DUE.is("home(1)", -9, x.home(1));
        DUE.is("home(-1)", -9, x.home(-1));
        DUE.is("home(2)", -1, x.home(2));
        DUE.is("home(-2)", -1, x.home(-2));
        x.wedges(2);
        DUE.is("home(1), wedged", 1, x.home(1));
        DUE.is("home(-1), wedged", 3, x.home(-1));
        x.hours(3);
        DUE.is("home(0) at home", 0, x.home(0));
        DUE.is("home(-1) at home", 0, x.home(-1));
        DUE.is("home(-1) of nobody", 0, new DoorsOneSide().home(-1));
        DUE.is("-1 counted", 2, x.count(11));
        // Four stiff doors in a row by hours that 5 divides: 20 hours.
        x = Due.of("ds901;ds912;ds923;ds934;p045;p115;p225;p335;p445;");
        DUE.is("home(0) by stiff doors", 20, x.home(0));
        DUE.is("home(-1) by stiff doors", 20, x.home(-1));
        DUE.is("comes(0, 3)", 15, x.comes(0, 3));
    }

    private static void shutIn() {
        DoorsOneSide x = Due.of("dp001;dp012;p025;p205;p335;p375;p105;p125;");
        DUE.is("shutIn()", 2 + 8 + 16, x.shutIn());
        x.wants(1, 2);
        DUE.is("shutIn() then", 8 + 16, x.shutIn());
        x.turns(0);
        DUE.is("shutIn() with a door turned", 1 + 8, x.shutIn());
        DUE.is("shutIn() of nobody", 0, new DoorsOneSide().shutIn());
    }

    private static void stuck() {
        DUE.is("stuck() of nobody", 0, new DoorsOneSide().stuck());
        DUE.is("stuck() by stiff doors", 20, Due.of("ds901;ds912;ds923;ds934;p045;p115;p225;p335;p445;").stuck());
        DUE.is("stuck() with one who waits", 3, chain().stuck());
        DoorsOneSide x = chain();
        x.hours(3);
        DUE.is("stuck() when nobody goes", 0, x.stuck());
        // Between the first and the last to go lie less than 12 hours, and none behind.
        x = Due.of("ds601;do023;p015;p115;p235;");
        DUE.is("stuck() with hours between", 4, x.stuck());
        DUE.is("HOUR stays", 0, x.count(2));
        DUE.is("LET stays", 0, x.count(3));
    }

    private static void nothingChanges() {
        DoorsOneSide x = chain();
        x.home(-1);
        x.stuck();
        x.letThen(60);
        x.comes(0, 7);
        DUE.is("HOUR", 1, x.count(2));
        DUE.is("LET", 1, x.count(3));
        DUE.is("ROOM", 0, x.person(0, 0));
        DUE.is("MOODS", 13, x.count(5));
    }
}
