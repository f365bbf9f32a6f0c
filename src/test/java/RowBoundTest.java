/** The edges of promises 34 to 37 and 39 to 41: the ROW, THE IMAGE, counts. */
public final class RowBoundTest {
    private static final Due DUE = new Due("RowBoundTest");

    public static void main(String[] args) {
        numbersFrom0To99();
        theSixteenthAndA17thNumber();
        clearOfNoneAndOfAll();
        kindsByNoRow();
        kindsBySixteenNumbers();
        goalsBySixteenNumbers();
        whatIsByNumbersThatAreNoRooms();
        whatIsOfTheFirstAndTheLast();
        whatIsPasses999();
        whatIsOutOfRange();
        judgeOfNoneAndOfAll();
        judgeOfNobodyThere();
        judgeLeavesNone();
        onWithoutAnImage();
        imageOfNothingAndOfAll();
        imageStays();
        imageLeavesOut();
        countFrom0To16();
        countOfAnotherWhat();
        countOfEachRefusal();
        the512thCall();
        DUE.end();
    }

    private static void rows(DoorsOneSide x, int... numbers) {
        x.clear();
        for (int v : numbers) {
            x.row(v);
        }
    }

    /** "A number more of the ROW (0 .. 99)". */
    private static void numbersFrom0To99() {
        DoorsOneSide x = new DoorsOneSide();
        DUE.is("row(-1)", -4, x.row(-1));
        DUE.is("row(0)", 1, x.row(0));
        DUE.is("row(99)", 2, x.row(99));
        DUE.is("row(100)", -6, x.row(100));
        DUE.is("in the ROW", 2, x.count(6));
    }

    /** "16 at most"; "-6 (99; 16, too)". */
    private static void theSixteenthAndA17thNumber() {
        DoorsOneSide x = new DoorsOneSide();
        for (int i = 1; i <= 16; i++) {
            DUE.is("number " + i, i, x.row(0));
        }
        DUE.is("a 17th", -6, x.row(0));
        DUE.is("a 17th of 99", -6, x.row(99));
        DUE.is("a 17th of 100", -6, x.row(100));
        DUE.is("a 17th of -1", -4, x.row(-1));
        DUE.is("in the ROW", 16, x.count(6));
        DUE.is("-6 counted", 3, x.count(16));
        DUE.is("-4 counted", 1, x.count(14));
    }

    /** "The ROW has none then: how many it had." */
    private static void clearOfNoneAndOfAll() {
        DoorsOneSide x = new DoorsOneSide();
        DUE.is("clear() of none", 0, x.clear());
        x.row(5);
        DUE.is("clear() of one", 1, x.clear());
        DUE.is("clear() again", 0, x.clear());
        Calls.times(16, x, "row 99");
        DUE.is("clear() of all", 16, x.clear());
        DUE.is("in the ROW", 0, x.count(6));
        DUE.is("the first number then", 1, x.row(0));
    }

    /** By a ROW of none all KINDS and GOALS are so. */
    private static void kindsByNoRow() {
        DoorsOneSide x = Due.of("dp001;p015;");
        DUE.is("KINDS by no ROW", 63, x.whatIs(0, 0, 0));
        DUE.is("GOALS by no ROW", 255, x.whatIs(0, 0, 1));
        rows(x, 0);
        DUE.is("KINDS by where he is", 63, x.whatIs(0, 0, 0));
        DUE.is("GOALS by where he is", 255, x.whatIs(0, 0, 1));
        rows(x, 1);
        DUE.is("KINDS by where he is not", 0, x.whatIs(0, 0, 0));
        DUE.is("GOALS by where he is not", 0, x.whatIs(0, 0, 1));
    }

    /** Three stiff doors, by HOURS that 5 divides: the 16th number tells where he is behind 15. */
    private static DoorsOneSide threeStiffDoors() {
        return Due.of("ds901;ds912;ds923;p035;p115;p225;p335;");
    }

    private static void kindsBySixteenNumbers() {
        DoorsOneSide x = threeStiffDoors();
        rows(x, 0, 0, 0, 0, 0, 1, 1, 1, 1, 1, 2, 2, 2, 2, 2, 3);
        DUE.is("the last DOOR by 16", 2, x.whatIs(0, 2, 0));
        DUE.is("the first DOOR by 16", 2, x.whatIs(0, 0, 0));
        DUE.is("the ROW stays", 16, x.count(6));
        DUE.is("GOALS by 16", 8, x.whatIs(0, 0, 1));
        rows(x, 0, 0, 0, 0, 0, 1, 1, 1, 1, 1, 2, 2, 2, 2, 2);
        DUE.is("the last DOOR by 15: it may be knocked or bolted", 2 + 4 + 32, x.whatIs(0, 2, 0));
        x.row(2);
        DUE.is("the last DOOR by another 16th", 4 + 32, x.whatIs(0, 2, 0));
        DUE.is("the KIND stays", 1, x.door(2, 0));
        DUE.is("the ROOM stays", 0, x.person(0, 0));
        DUE.is("HOUR stays", 0, x.count(2));
    }

    private static void goalsBySixteenNumbers() {
        DoorsOneSide x = threeStiffDoors();
        rows(x, 0, 0, 0, 0, 0, 1, 1, 1, 1, 1, 2, 2, 2, 2, 2);
        DUE.is("GOALS by 15", 4 + 8, x.whatIs(0, 0, 1));
        x.row(2);
        DUE.is("GOALS by a 16th", 4, x.whatIs(0, 0, 1));
        rows(x, 0, 0, 0, 0, 0, 0);
        DUE.is("GOALS of who stays", 255 - 2 - 4 - 8, x.whatIs(0, 0, 1));
        DUE.is("the GOAL stays", 3, x.person(0, 1));
    }

    private static void whatIsByNumbersThatAreNoRooms() {
        DoorsOneSide x = Due.of("do001;p015;");
        rows(x, 0, 1, 8);
        DUE.is("KINDS by 8", 0, x.whatIs(0, 0, 0));
        DUE.is("GOALS by 8", 0, x.whatIs(0, 0, 1));
        rows(x, 99);
        DUE.is("KINDS by 99", 0, x.whatIs(0, 0, 0));
        DUE.is("GOALS by 99", 0, x.whatIs(0, 0, 1));
    }

    private static void whatIsOfTheFirstAndTheLast() {
        DoorsOneSide x = Due.of("do001;".repeat(8) + "dp067;p015;p335;p335;p335;p335;p675;");
        rows(x, 6, 7);
        DUE.is("the last DOOR of the last one", 8 + 16, x.whatIs(5, 8, 0));
        DUE.is("the first DOOR of the last one", 0, x.whatIs(5, 0, 0));
        x.wedges(8);
        DUE.is("the last DOOR, WEDGED", 63, x.whatIs(5, 8, 0));
        DUE.is("GOALS of the last one", 128, x.whatIs(5, 8, 1));
        rows(x, 0, 1);
        DUE.is("the last DOOR of the first one", 63, x.whatIs(0, 8, 0));
        DUE.is("GOALS of the first one", 2, x.whatIs(0, 0, 1));
    }

    private static void whatIsPasses999() {
        DoorsOneSide x = Due.of("h60;".repeat(16) + "h39;");
        Due.tell(x, "dp901;p015;");
        rows(x, 0, 0, 1);
        DUE.is("a cat's door opens in 1001", 8, x.whatIs(0, 0, 0));
        rows(x, 0, 1);
        DUE.is("an own one in 1000", 16, x.whatIs(0, 0, 0));
        DUE.is("HOUR stays", 999, x.count(2));
    }

    private static void whatIsOutOfRange() {
        DoorsOneSide x = Due.of("dp001;p015;");
        DUE.is("whatIs(1, 0, 0)", -1, x.whatIs(1, 0, 0));
        DUE.is("whatIs(0, 1, 0)", -1, x.whatIs(0, 1, 0));
        DUE.is("whatIs(0, 1, 1)", -1, x.whatIs(0, 1, 1));
        DUE.is("whatIs(0, 0, 2)", -2, x.whatIs(0, 0, 2));
        DUE.is("whatIs(0, 0, -1)", -2, x.whatIs(0, 0, -1));
    }

    /** "the first that is not so; -9". */
    private static void judgeOfNoneAndOfAll() {
        DoorsOneSide x = Due.of("p005;p115;p225;p335;p445;p775;");
        DUE.is("no ROW", -9, x.judge());
        rows(x, 0);
        DUE.is("one of six", -9, x.judge());
        rows(x, 0, 1, 2, 3, 4, 7);
        DUE.is("all six", -9, x.judge());
        rows(x, 0, 1, 2, 3, 4, 6);
        DUE.is("the last is not so", 5, x.judge());
        rows(x, 7, 1, 2, 3, 4, 7);
        DUE.is("the first is not so", 0, x.judge());
        rows(x, 1, 0, 2, 3, 4, 6);
        DUE.is("the first of three", 0, x.judge());
        rows(x, 0, 1, 2, 3, 4, 99);
        DUE.is("a number that is no ROOM", 5, x.judge());
        DUE.is("nothing is refused", 0, x.count(11));
    }

    /** "(nobody there, too)". */
    private static void judgeOfNobodyThere() {
        DoorsOneSide x = Due.of("p005;p115;p225;p335;p445;p775;");
        rows(x, 0, 1, 2, 3, 4, 7, 0);
        DUE.is("a seventh of six", 6, x.judge());
        rows(x, 0, 1, 2, 3, 4, 7, 7, 0, 0, 0, 0, 0, 0, 0, 0, 0);
        DUE.is("sixteen of six", 6, x.judge());
        x = new DoorsOneSide();
        DUE.is("no ROW of nobody", -9, x.judge());
        rows(x, 0);
        DUE.is("one of nobody", 0, x.judge());
        x = Due.of("p005;");
        rows(x, 0, 0);
        DUE.is("a second of one", 1, x.judge());
    }

    /** "(the ROW has none then)". */
    private static void judgeLeavesNone() {
        DoorsOneSide x = Due.of("p005;");
        rows(x, 0);
        x.judge();
        DUE.is("in the ROW where all is so", 0, x.count(6));
        Calls.times(16, x, "row 9");
        x.judge();
        DUE.is("in the ROW where it is not", 0, x.count(6));
        DUE.is("clear()", 0, x.clear());
        DUE.is("the first number then", 1, x.row(0));
        DUE.is("it is judged anew", -9, x.judge());
    }

    /** Promise 40: "-3 there is none". */
    private static void onWithoutAnImage() {
        DoorsOneSide x = Due.of("do001;p015;h01;");
        DUE.is("on()", -3, x.on());
        DUE.is("on() again", -3, x.on());
        DUE.is("-3 counted", 2, x.count(13));
        DUE.is("HOUR stays", 1, x.count(2));
        DUE.is("image()", 1, x.image());
        DUE.is("on() then", 1, x.on());
        DUE.is("-3 counted no more", 2, x.count(13));
    }

    private static void imageOfNothingAndOfAll() {
        DoorsOneSide x = new DoorsOneSide();
        DUE.is("image() of nothing", 0, x.image());
        Due.tell(x, "do001;".repeat(9) + "p015;p015;p015;p015;p015;p015;h60;");
        DUE.is("DOORS", 9, x.count(0));
        DUE.is("on() to nothing", 0, x.on());
        for (int what = 0; what <= 5; what++) {
            DUE.is("count(" + what + ") of nothing", 0, x.count(what));
        }
        DUE.is("WAY of nothing", -9, x.way(0, 1, 0));
        Due.tell(x, "do001;".repeat(8) + "do567;w8;p015;p015;p015;p015;p015;p679;");
        Calls.times(16, x, "hours 60");
        x.hours(39);
        DUE.is("image() of all", 999, x.image());
        x.turns(8);
        x.wedges(8);
        x.changes(8, 0, 0);
        x.stands(5, 0);
        x.wants(5, 1);
        x.moods(5, 0);
        DUE.is("on() to all", 999, x.on());
        int[] door = {4, 5, 6, 7, 1};
        int[] person = {7, 7, 9, -9};
        for (int what = 0; what <= 4; what++) {
            DUE.is("door(8, " + what + ")", door[what], x.door(8, what));
        }
        for (int what = 0; what <= 3; what++) {
            DUE.is("person(5, " + what + ")", person[what], x.person(5, what));
        }
        DUE.is("LET", 6, x.count(3));
        DUE.is("WAY", 1, x.way(6, 7, 0));
        DUE.is("hours(1)", -6, x.hours(1));
    }

    /** ON takes nothing from the image; another one takes its place. */
    private static void imageStays() {
        DoorsOneSide x = Due.of("do001;p015;");
        x.image();
        for (int i = 0; i < 3; i++) {
            x.hours(5);
            x.turns(0);
            DUE.is("on()", 0, x.on());
            DUE.is("ROOM", 0, x.person(0, 0));
            DUE.is("the ROOM into", 1, x.door(0, 3));
            DUE.is("WAY", 1, x.way(0, 1, 0));
        }
        x.hours(7);
        DUE.is("image() anew", 7, x.image());
        x.hours(2);
        DUE.is("on() to it", 7, x.on());
        DUE.is("ROOM then", 1, x.person(0, 0));
    }

    /** "but it, the ROW, letters, REFUSALS". */
    private static void imageLeavesOut() {
        DoorsOneSide x = Due.of("p015;");
        x.image();
        x.row(0);
        x.row(0);
        Calls.times(3, x, "letter 104");
        x.row(-1);
        x.person(0, 4);
        x.on();
        DUE.is("the ROW stays", 2, x.count(6));
        DUE.is("letters stay", 3, x.count(7));
        DUE.is("REFUSALS stay", 2, x.count(12) + x.count(14));
        DUE.is("judge()", 1, x.judge());
        x.on();
        DUE.is("the ROW is not brought back", 0, x.count(6));
    }

    private static void countFrom0To16() {
        DoorsOneSide x = Due.of("do001;".repeat(9) + "p019;p019;p019;p019;p019;p019;");
        Calls.times(16, x, "hours 60");
        x.hours(39);
        Calls.times(16, x, "row 99");
        Calls.times(96, x, "letter 255");
        int[] due = {9, 6, 999, 6, 63, 54, 16, 96};
        for (int what = 0; what <= 7; what++) {
            DUE.is("count(" + what + ") of all", due[what], x.count(what));
        }
        for (int what = 11; what <= 16; what++) {
            DUE.is("count(" + what + ") of none", 0, x.count(what));
        }
        x.stands(5, 0);
        DUE.is("count(4) but the last", 31, x.count(4));
        x.stands(0, 0);
        DUE.is("count(4) but the first too", 30, x.count(4));
    }

    /** "-9 for another what", which is not refused. */
    private static void countOfAnotherWhat() {
        DoorsOneSide x = Due.of("do001;p015;");
        int[] others = {-1, -2, 8, 9, 10, 17, 18, -11, -16, Integer.MIN_VALUE, Integer.MIN_VALUE + 11, Integer.MAX_VALUE};
        for (int what : others) {
            DUE.is("count(" + what + ")", -9, x.count(what));
        }
        for (int refused : Calls.refusals(x)) {
            DUE.is("REFUSALS", 0, refused);
        }
    }

    /** "11 .. 16 REFUSALS -1 .. -6": of -5 there is none. */
    private static void countOfEachRefusal() {
        DoorsOneSide x = new DoorsOneSide();
        Calls.times(1, x, "door 0 0");
        Calls.times(2, x, "crowd 4");
        Calls.times(3, x, "on");
        Calls.times(4, x, "hours 0");
        Calls.times(6, x, "hours 61");
        Calls.times(7, x, "mean 2");
        Calls.times(8, x, "fire 0 0 0 2 0");
        int[] due = {9, 9, 3, 4, 0, 6};
        for (int i = 0; i < 6; i++) {
            DUE.is("count(" + (11 + i) + ")", due[i], x.count(11 + i));
        }
    }

    /** "An object is used for at most 512 calls after it has been made": the last of them is answered as the first. */
    private static void the512thCall() {
        DoorsOneSide x = new DoorsOneSide();
        Calls.times(511, x, "on");
        DUE.is("511 calls refused", 511, x.count(13));
        x = new DoorsOneSide();
        Calls.times(511, x, "letter 104");
        DUE.is("96 letters taken, 415 refused", 415, x.count(16));
        x = new DoorsOneSide();
        for (int i = 0; i < 5; i++) {
            DUE.is("24 HOURS told in 97 calls", 24, Due.tell(x, "h01;".repeat(24)));
        }
        Calls.times(26, x, "hours 33");
        DUE.is("HOUR behind 511 calls", 120 + 26 * 33, x.count(2));
    }
}
