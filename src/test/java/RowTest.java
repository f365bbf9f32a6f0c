/** Promises 34 to 37 and 39 to 41: the row, what a door is by it, the image, counts. */
public final class RowTest {
    private static final Due DUE = new Due("RowTest");

    public static void main(String[] args) {
        row();
        judge();
        kindsByRow();
        goalsByRow();
        whatIsRefused();
        image();
        imageLeavesOut();
        count();
        DUE.end();
    }

    private static void rows(DoorsOneSide x, int... numbers) {
        x.clear();
        for (int v : numbers) {
            x.row(v);
        }
    }

    private static void row() {
        DoorsOneSide x = new DoorsOneSide();
        DUE.is("clear() of none", 0, x.clear());
        DUE.is("row(-1)", -4, x.row(-1));
        DUE.is("row(100)", -6, x.row(100));
        for (int i = 1; i <= 16; i++) {
            DUE.is("row number " + i, i, x.row(i % 2 * 99));
        }
        DUE.is("row number 17", -6, x.row(0));
        DUE.is("row(-1) when full", -4, x.row(-1));
        DUE.is("in the ROW", 16, x.count(6));
        DUE.is("clear()", 16, x.clear());
        DUE.is("in the ROW then", 0, x.count(6));
        DUE.is("row number 1", 1, x.row(99));
        DUE.is("-4 counted", 2, x.count(14));
        DUE.is("-6 counted", 2, x.count(16));
    }

    private static void judge() {
        DoorsOneSide x = Due.of("p205;p700;p311;");
        DUE.is("judge() of none", -9, x.judge());
        rows(x, 2, 7, 3);
        DUE.is("judge() of all as it is", -9, x.judge());
        DUE.is("the ROW has none", 0, x.count(6));
        rows(x, 2, 7);
        DUE.is("judge() of less", -9, x.judge());
        rows(x, 2, 7, 3, 0);
        DUE.is("judge() of more", 3, x.judge());
        rows(x, 2, 6, 4);
        DUE.is("judge() of wrong ones", 1, x.judge());
        DUE.is("the ROW has none then", 0, x.count(6));
        rows(x, 99);
        DUE.is("judge() of no room", 0, x.judge());
        DUE.is("judge() again", -9, x.judge());
    }

    private static void kindsByRow() {
        // HOUR 1 passes by a cat's or an own door alone, with nobody inside.
        DoorsOneSide x = Due.of("dp001;p015;");
        rows(x, 0, 1, 1);
        DUE.is("through in HOUR 1 with nobody", 8 + 16, x.whatIs(0, 0, 0));
        DUE.is("the ROW stays", 3, x.count(6));
        rows(x, 0, 0, 0);
        DUE.is("never with nobody", 1 + 2 + 4 + 32, x.whatIs(0, 0, 0));
        rows(x, 1);
        DUE.is("not where he is now", 0, x.whatIs(0, 0, 0));
        rows(x);
        DUE.is("by no ROW", 63, x.whatIs(0, 0, 0));
        // One helper of MOOD 4 and FIGURE 5: the stiff door opens in HOUR 3.
        x = Due.of("dk501;p114;p015;");
        rows(x, 0, 0, 0, 1);
        DUE.is("in HOUR 3 with one", 2, x.whatIs(1, 0, 0));
        rows(x, 0, 0, 0, 0, 0);
        DUE.is("never with one", 4 + 32, x.whatIs(1, 0, 0));
        rows(x, 0, 1);
        DUE.is("at once with one", 1 + 8 + 16, x.whatIs(1, 0, 0));
        x.wedges(0);
        DUE.is("wedged they are all one", 63, x.whatIs(1, 0, 0));
        DUE.is("KIND stays", 2, x.door(0, 0));
        DUE.is("ROOM stays", 0, x.person(1, 0));
        x = Due.of("dk501;p114;p115;p015;");
        rows(x, 0, 0, 0, 1);
        DUE.is("in HOUR 3 with two", 2 + 32, x.whatIs(2, 0, 0));
    }

    private static void goalsByRow() {
        DoorsOneSide x = Due.of("do001;do012;dp003;p045;");
        rows(x, 0, 1);
        DUE.is("GOALS by 0, 1", 2 + 4, x.whatIs(0, 0, 1));
        rows(x, 0, 1, 1);
        DUE.is("GOALS by 0, 1, 1", 2, x.whatIs(0, 1, 1));
        rows(x, 0, 1, 2);
        DUE.is("GOALS by 0, 1, 2", 4, x.whatIs(0, 2, 1));
        rows(x, 0, 0);
        DUE.is("GOALS by 0, 0", 255 - 2 - 4, x.whatIs(0, 0, 1));
        rows(x, 0, 8);
        DUE.is("GOALS by no room", 0, x.whatIs(0, 0, 1));
        rows(x);
        DUE.is("GOALS by no ROW", 255, x.whatIs(0, 0, 1));
        DUE.is("GOAL stays", 4, x.person(0, 1));
        DUE.is("HOUR stays", 0, x.count(2));
    }

    private static void whatIsRefused() {
        DoorsOneSide x = Due.of("do001;p045;");
        DUE.is("whatIs(1, 0, 2): -1 goes first", -1, x.whatIs(1, 0, 2));
        DUE.is("whatIs(-1, 0, 0)", -1, x.whatIs(-1, 0, 0));
        DUE.is("whatIs(0, 1, 2): -1 goes first", -1, x.whatIs(0, 1, 2));
        DUE.is("whatIs(0, -1, 1)", -1, x.whatIs(0, -1, 1));
        DUE.is("whatIs(0, 0, 2)", -2, x.whatIs(0, 0, 2));
        DUE.is("whatIs(0, 0, -1)", -2, x.whatIs(0, 0, -1));
        DUE.is("-1 counted", 4, x.count(11));
        DUE.is("-2 counted", 2, x.count(12));
    }

    private static void image() {
        DoorsOneSide x = Due.of("ds401;do012;p023;p105;h02;");
        DUE.is("on() without an image", -3, x.on());
        DUE.is("on() without an image again", -3, x.on());
        DUE.is("-3 counted", 2, x.count(13));
        DUE.is("image()", 2, x.image());
        int moods = x.count(5);
        Due.tell(x, "dp034;p777;w0;t1;r07;g06;h05;");
        x.changes(0, 5, 9);
        x.moods(1, 9);
        DUE.is("on()", 2, x.on());
        DUE.is("DOORS", 2, x.count(0));
        DUE.is("PEOPLE", 2, x.count(1));
        DUE.is("HOUR", 2, x.count(2));
        DUE.is("LET", 0, x.count(3));
        DUE.is("MOODS", moods, x.count(5));
        DUE.is("ROOM", 0, x.person(0, 0));
        DUE.is("GOAL", 2, x.person(0, 1));
        DUE.is("KIND", 1, x.door(0, 0));
        DUE.is("FIGURE", 4, x.door(0, 1));
        DUE.is("wedged", 0, x.door(0, 4));
        DUE.is("from", 1, x.door(1, 2));
        DUE.is("way", 1, x.way(1, 2, 0));
        DUE.is("way back", -9, x.way(2, 1, 0));
        x.hours(10);
        DUE.is("on() again: it stays", 2, x.on());
        x.hours(10);
        DUE.is("image() anew", 12, x.image());
        x.hours(10);
        DUE.is("on() from the new one", 12, x.on());
        x = new DoorsOneSide();
        DUE.is("image() of nothing", 0, x.image());
        Due.tell(x, "dp001;p015;h09;");
        DUE.is("on() to nothing", 0, x.on());
        DUE.is("DOORS of nothing", 0, x.count(0));
        DUE.is("PEOPLE of nothing", 0, x.count(1));
    }

    private static void imageLeavesOut() {
        DoorsOneSide x = Due.of("p015;");
        x.row(5);
        x.letter('h');
        x.image();
        x.row(6);
        x.letter('0');
        x.letter('4');
        x.hours(0);
        DUE.is("on()", 0, x.on());
        DUE.is("the ROW is as it was", 2, x.count(6));
        DUE.is("letters are as they were", 3, x.count(7));
        DUE.is("REFUSALS are as they were", 1, x.count(14));
        x.letter(';');
        DUE.is("town()", 1, x.town());
        DUE.is("HOUR", 4, x.count(2));
    }

    private static void count() {
        DoorsOneSide x = Due.of("do001;do012;p023;p105;p339;p014;h01;");
        DUE.is("DOORS", 2, x.count(0));
        DUE.is("PEOPLE", 4, x.count(1));
        DUE.is("HOUR", 1, x.count(2));
        DUE.is("LET", 2, x.count(3));
        DUE.is("home", 4 + 8, x.count(4));
        DUE.is("MOODS", 3 + 4 + 9 + 4, x.count(5));
        x.row(3);
        x.letter('x');
        x.letter('x');
        DUE.is("in the ROW", 1, x.count(6));
        DUE.is("letters", 2, x.count(7));
        x.door(9, 0);
        x.door(9, 0);
        x.door(9, 0);
        x.door(0, 9);
        x.door(0, 9);
        x.on();
        for (int i = 0; i < 4; i++) {
            x.hours(0);
        }
        x.hours(61);
        int[] refusals = {3, 2, 1, 4, 0, 1};
        for (int i = 0; i < 6; i++) {
            DUE.is("REFUSALS " + (-1 - i), refusals[i], x.count(11 + i));
        }
        int[] others = {8, 9, 10, 17, 100, -1, -11, Integer.MIN_VALUE, Integer.MAX_VALUE};
        for (int what : others) {
            DUE.is("count(" + what + ")", -9, x.count(what));
        }
        for (int i = 0; i < 6; i++) {
            DUE.is("REFUSALS " + (-1 - i) + " stay", refusals[i], x.count(11 + i));
        }
    }
}
