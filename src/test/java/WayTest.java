/** Promises 19 to 22 and 28 to 30: ways, rounds, what opens, and where all are. */
public final class WayTest {
    private static final Due DUE = new Due("WayTest");

    public static void main(String[] args) {
        way();
        round();
        reach();
        open();
        crowd();
        handles();
        meet();
        DUE.end();
    }

    private static void way() {
        DoorsOneSide x = Due.of("db923;dp001;dp012;dp003;dp012;dp030;");
        DUE.is("way(0, 2, 0)", 2, x.way(0, 2, 0));
        DUE.is("way(0, 2, 1)", 1, x.way(0, 2, 1));
        DUE.is("way(1, 2, 1), the least", 2, x.way(1, 2, 1));
        DUE.is("way(0, 3, 0)", 1, x.way(0, 3, 0));
        DUE.is("way(0, 3, 1)", 3, x.way(0, 3, 1));
        DUE.is("way(2, 1, 0)", 3, x.way(2, 1, 0));
        DUE.is("way(2, 1, 1)", 0, x.way(2, 1, 1));
        DUE.is("way(2, 2, 0)", 0, x.way(2, 2, 0));
        DUE.is("way(2, 2, 1)", -9, x.way(2, 2, 1));
        DUE.is("way(0, 4, 0)", -9, x.way(0, 4, 0));
        DUE.is("way(0, 4, 1)", -9, x.way(0, 4, 1));
        DUE.is("way(4, 0, 1)", -9, x.way(4, 0, 1));
        DUE.is("way(0, 1, 0) when new", -9, new DoorsOneSide().way(0, 1, 0));
        DUE.is("way(0, 0, 0) when new", 0, new DoorsOneSide().way(0, 0, 0));
        DUE.is("way(8, 0, 2): -1 goes first", -1, x.way(8, 0, 2));
        DUE.is("way(0, 8, 2): -1 goes first", -1, x.way(0, 8, 2));
        DUE.is("way(-1, 0, 0)", -1, x.way(-1, 0, 0));
        DUE.is("way(0, -1, 0)", -1, x.way(0, -1, 0));
        DUE.is("way(0, 0, 2)", -2, x.way(0, 0, 2));
        DUE.is("way(0, 0, -1)", -2, x.way(0, 0, -1));
    }

    private static void round() {
        DoorsOneSide x = Due.of("dp001;dp012;dp020;dp010;dp034;");
        DUE.is("round(0)", 2, x.round(0));
        DUE.is("round(1)", 2, x.round(1));
        DUE.is("round(2)", 3, x.round(2));
        DUE.is("round(3)", -9, x.round(3));
        DUE.is("round(4)", -9, x.round(4));
        DUE.is("round(5)", -9, x.round(5));
        DUE.is("round(8)", -1, x.round(8));
        DUE.is("round(-1)", -1, x.round(-1));
        DUE.is("the longest", 8,
            Due.of("dp001;dp012;dp023;dp034;dp045;dp056;dp067;dp070;").round(7));
    }

    private static void reach() {
        DoorsOneSide x = Due.of("dp001;dp012;dp034;dp043;dp047;");
        int[] reach = {7, 6, 4, 152, 152, 32, 64, 128};
        for (int room = 0; room < 8; room++) {
            DUE.is("reach(" + room + ")", reach[room], x.reach(room));
        }
        DUE.is("reach(8)", -1, x.reach(8));
        DUE.is("reach(-1)", -1, x.reach(-1));
    }

    private static void open() {
        DoorsOneSide x = Due.of("dp001;dp012;dc034;do056;dk821;p117;p107;");
        DUE.is("open() in HOUR 1", 1 + 4 + 8, x.open());
        x.moods(1, 8);
        DUE.is("open() with MOOD 8", 1 + 4 + 8 + 16, x.open());
        x.wedges(1);
        DUE.is("open() with one wedged", 31, x.open());
        x.hours(1);
        DUE.is("open() in HOUR 2", 1 + 2 + 8, x.open());
        DUE.is("MOOD of who waited", 7, x.person(1, 2));
        DUE.is("open() of nobody", 0, new DoorsOneSide().open());
        DUE.is("open() into 0 with nobody there", 0, Due.of("dp010;p115;").open());
    }

    private static void crowd() {
        DoorsOneSide x = Due.of("dp001;dp071;dp013;p500;p200;p510;p220;p600;");
        DUE.is("crowd(0), the least", 2, x.crowd(0));
        DUE.is("crowd(1)", 2, x.crowd(1));
        DUE.is("crowd(2)", 255 - 4 - 32 - 64, x.crowd(2));
        DUE.is("crowd(3)", 255 - 1 - 2 - 128, x.crowd(3));
        x.stands(1, 5);
        DUE.is("crowd(0) then", 5, x.crowd(0));
        DUE.is("crowd(1) then", 3, x.crowd(1));
        x.turns(0);
        DUE.is("crowd(3) with a door turned", 255 - 2 - 128, x.crowd(3));
        DUE.is("crowd(4)", -2, x.crowd(4));
        DUE.is("crowd(-1)", -2, x.crowd(-1));
        x = Due.of("p000;p010;p220;");
        DUE.is("crowd(0) in 0", 0, x.crowd(0));
        DUE.is("crowd(1) in 0", 2, x.crowd(1));
        DUE.is("crowd(2) but 0 and 2", 250, x.crowd(2));
        x.stands(0, 1);
        x.stands(1, 1);
        DUE.is("crowd(0) in 1", 1, x.crowd(0));
        x = Due.of("p777;");
        DUE.is("crowd(0) of one", 7, x.crowd(0));
        DUE.is("crowd(2) of one", 127, x.crowd(2));
    }

    private static void handles() {
        DoorsOneSide x = Due.of("dp001;dp021;dp010;dp031;dp067;");
        DUE.is("handles(1)", 1 + 2 + 8, x.handles(1));
        DUE.is("handles(0)", 4, x.handles(0));
        DUE.is("handles(7)", 16, x.handles(7));
        DUE.is("handles(2)", 0, x.handles(2));
        x.turns(1);
        DUE.is("handles(2) with a door turned", 2, x.handles(2));
        DUE.is("handles(8)", -1, x.handles(8));
        DUE.is("handles(-1)", -1, x.handles(-1));
    }

    private static void meet() {
        DoorsOneSide x = Due.of("dp001;dp012;dp032;dp024;p075;p375;");
        DUE.is("meet(0)", 2, x.meet(0));
        DUE.is("meet(1)", 3, x.meet(1));
        Due.tell(x, "dp040;");
        DUE.is("meet(0) with a door more", 0, x.meet(0));
        DUE.is("meet(1) with a door more", 3, x.meet(1));
        x.stands(1, 2);
        DUE.is("meet(0), of several the least", 0, x.meet(0));
        DUE.is("meet(1)", 2, x.meet(1));
        x.stands(1, 7);
        DUE.is("meet(0) without a way", -9, x.meet(0));
        DUE.is("meet(1) without a way", -9, x.meet(1));
        DUE.is("meet(2)", -2, x.meet(2));
        DUE.is("meet(-1)", -2, x.meet(-1));
        x = new DoorsOneSide();
        DUE.is("meet(0) of nobody", 0, x.meet(0));
        DUE.is("meet(1) of nobody", 0, x.meet(1));
        x = Due.of("dp001;dp012;dp023;dp034;dp045;dp056;dp067;p000;p000;p000;p000;p000;p770;");
        DUE.is("meet(1) of six", 35, x.meet(1));
    }
}
