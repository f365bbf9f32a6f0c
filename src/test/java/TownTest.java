/** Promises 1 to 3: a new object, letters, and the town that is told in them. */
public final class TownTest {
    private static final Due DUE = new Due("TownTest");

    public static void main(String[] args) {
        newObject();
        letters();
        shapeFaults();
        senseFaults();
        shapeGoesFirst();
        noRoomForMore();
        hoursInTowns();
        withFaultNothingComes();
        statements();
        manyStatements();
        DUE.end();
    }

    private static void newObject() {
        DoorsOneSide x = new DoorsOneSide();
        for (int what = 0; what <= 7; what++) {
            DUE.is("count(" + what + ") when new", 0, x.count(what));
        }
        for (int what = 11; what <= 16; what++) {
            DUE.is("count(" + what + ") when new", 0, x.count(what));
        }
        DUE.is("on() when new", -3, x.on());
    }

    private static void letters() {
        DoorsOneSide x = new DoorsOneSide();
        DUE.is("letter(-1)", -4, x.letter(-1));
        DUE.is("letter(256)", -6, x.letter(256));
        DUE.is("letter(least int)", -4, x.letter(Integer.MIN_VALUE));
        DUE.is("letter(greatest int)", -6, x.letter(Integer.MAX_VALUE));
        DUE.is("letter(0)", 1, x.letter(0));
        DUE.is("letter(255)", 2, x.letter(255));
        for (int i = 3; i <= 96; i++) {
            DUE.is("letter " + i, i, x.letter('h'));
        }
        DUE.is("letter 97", -6, x.letter('h'));
        DUE.is("letter(-1) when full", -4, x.letter(-1));
        DUE.is("letters when full", 96, x.count(7));
        DUE.is("-4 counted", 3, x.count(14));
        DUE.is("-6 counted", 3, x.count(16));
        DUE.is("town of no letters that mean anything", -1000, x.town());
        DUE.is("letters behind the town", 0, x.count(7));
        DUE.is("letter behind the town", 1, x.letter('h'));
    }

    private static void fault(String text, int want) {
        DoorsOneSide x = new DoorsOneSide();
        DUE.is("town of \"" + text + "\"", want, Due.tell(x, text));
        DUE.is("letters behind \"" + text + "\"", 0, x.count(7));
        for (int what = 11; what <= 16; what++) {
            DUE.is("refusals behind \"" + text + "\"", 0, x.count(what));
        }
    }

    private static void shapeFaults() {
        fault("", -1000);
        fault(";", -1000);
        fault("D", -1000);
        fault("0", -1000);
        fault("d", -1001);
        fault("dx001;", -1001);
        fault("d0", -1001);
        fault("dp", -1002);
        fault("dpp01;", -1002);
        fault("dp0", -1003);
        fault("dp00", -1004);
        fault("dp001", -1005);
        fault("dp0011", -1005);
        fault("dp001;;", -1006);
        fault("dp001;d", -1007);
        fault("dp001; ", -1006);
        fault("p", -1001);
        fault("p0/0;", -1002);
        fault("p0:0;", -1002);
        fault("p00", -1003);
        fault("p000", -1004);
        fault("p0000", -1004);
        fault("g0;", -1002);
        fault("g000;", -1003);
        fault("r0;", -1002);
        fault("r000;", -1003);
        fault("w;", -1001);
        fault("w00;", -1002);
        fault("t", -1001);
        fault("t0", -1002);
        fault("t00;", -1002);
        fault("h;", -1001);
        fault("h1;", -1002);
        fault("h001;", -1003);
        fault("h01;x", -1004);
        fault("h01;" + (char) 233, -1004);
    }

    private static void senseFaults() {
        fault("dp000;", -2000);
        fault("dp077;", -2000);
        fault("dp080;", -2000);
        fault("dp008;", -2000);
        fault("dp090;", -2000);
        fault("p080;", -2000);
        fault("p800;", -2000);
        fault("p090;", -2000);
        fault("g00;", -2000);
        fault("r00;", -2000);
        fault("p000;g10;", -2005);
        fault("p000;g08;", -2005);
        fault("p000;r10;", -2005);
        fault("p000;r08;", -2005);
        fault("p000;h01;r01;g11;", -2013);
        fault("g00;p000;", -2000);
        fault("w0;", -2000);
        fault("t0;", -2000);
        fault("dp001;w1;", -2006);
        fault("dp001;t1;", -2006);
        fault("w0;dp001;", -2000);
        fault("h00;", -2000);
        fault("h61;", -2000);
        fault("h99;", -2000);
        fault("h60;h61;h00;", -2004);
    }

    private static void shapeGoesFirst() {
        fault("dp000;p0", -1008);
        fault("h00;x", -1004);
        fault("g00;w0", -1006);
    }

    private static void noRoomForMore() {
        StringBuilder doors = new StringBuilder();
        for (int i = 0; i < 9; i++) {
            doors.append("dp").append(i).append("01;");
        }
        DoorsOneSide x = Due.of(doors.toString());
        DUE.is("nine doors", 9, x.count(0));
        DUE.is("a tenth door", -2000, Due.tell(x, "dp001;"));
        fault(doors + "dp001;", -2054);
        x = Due.of("p000;p000;p000;p000;p000;p000;");
        DUE.is("six people", 6, x.count(1));
        DUE.is("a seventh of them", -2000, Due.tell(x, "p000;"));
        fault("p000;p000;p000;p000;p000;p000;p000;", -2030);
    }

    private static void hoursInTowns() {
        DoorsOneSide x = new DoorsOneSide();
        for (int i = 0; i < 16; i++) {
            DUE.is("h60;", 1, Due.tell(x, "h60;"));
        }
        DUE.is("HOUR", 960, x.count(2));
        DUE.is("h40; at 960", -2000, Due.tell(x, "h40;"));
        DUE.is("h39;h01; at 960", -2004, Due.tell(x, "h39;h01;"));
        DUE.is("HOUR stays with a fault", 960, x.count(2));
        DUE.is("h39; at 960", 1, Due.tell(x, "h39;"));
        DUE.is("HOUR at its end", 999, x.count(2));
        DUE.is("h01; at 999", -2000, Due.tell(x, "h01;"));
    }

    private static void withFaultNothingComes() {
        DoorsOneSide x = Due.of("ds312;p012;");
        DUE.is("fault", -2025, Due.tell(x, "dp001;p345;w0;t0;g07;h02;g90;"));
        DUE.is("doors", 1, x.count(0));
        DUE.is("people", 1, x.count(1));
        DUE.is("HOUR", 0, x.count(2));
        DUE.is("GOAL", 1, x.person(0, 1));
        DUE.is("MOOD", 2, x.person(0, 2));
        DUE.is("from", 1, x.door(0, 2));
        DUE.is("not wedged", 0, x.door(0, 4));
        DUE.is("without fault", 6, Due.tell(x, "dp001;p345;w0;t0;g07;h02;"));
        DUE.is("doors then", 2, x.count(0));
        DUE.is("people then", 2, x.count(1));
        DUE.is("HOUR then", 2, x.count(2));
        DUE.is("GOAL then", 7, x.person(0, 1));
        DUE.is("MOOD then", 0, x.person(0, 2));
        DUE.is("from then", 2, x.door(0, 2));
        DUE.is("wedged then", 1, x.door(0, 4));
    }

    private static void statements() {
        DoorsOneSide x = Due.of("do901;p014;h01;r04;g05;w0;w0;t0;");
        DUE.is("ROOM told", 4, x.person(0, 0));
        DUE.is("GOAL told", 5, x.person(0, 1));
        DUE.is("LET of the hour between", 1, x.count(3));
        DUE.is("wedged twice", 0, x.door(0, 4));
        DUE.is("turned: from", 1, x.door(0, 2));
        DUE.is("turned: into", 0, x.door(0, 3));
        DUE.is("more statements", 2, Due.tell(x, "w0;t0;"));
        DUE.is("wedged once", 1, x.door(0, 4));
        DUE.is("turned back", 0, x.door(0, 2));
        DUE.is("a turned door is the way", 1, x.way(0, 1, 0));
        String kinds = "pskcob";
        for (int kind = 0; kind < 6; kind++) {
            DUE.is("kind " + kinds.charAt(kind), kind, Due.of("d" + kinds.charAt(kind) + "035;").door(0, 0));
        }
    }

    private static void manyStatements() {
        DoorsOneSide x = new DoorsOneSide();
        DUE.is("24 statements in 96 letters", 24, Due.tell(x, "h01;".repeat(24)));
        DUE.is("HOUR", 24, x.count(2));
        DUE.is("96 letters, the last wrong", -1095, Due.tell(x, "h01;".repeat(23) + "h010"));
        DUE.is("95 letters, one lacks", -1095, Due.tell(x, "h01;".repeat(23) + "h01"));
    }
}
