/**
 * The edges of the TERMS and of promises 1 to 3: how many letters, DOORS, PEOPLE and HOURS there may be, and
 * both kinds of FAULT at every place of every STATEMENT.
 */
public final class TownBoundTest {
    private static final Due DUE = new Due("TownBoundTest");
    /** One of each STATEMENT, right in shape. */
    private static final String[] SHAPES = {"dp001;", "p000;", "g00;", "r00;", "w0;", "t0;", "h01;"};
    private static final String NINE_DOORS = "dp001;dp012;dp023;dp034;dp045;dp056;dp067;dp070;dp017;";
    private static final String SIX_PEOPLE = "p000;p111;p222;p333;p444;p555;";

    public static void main(String[] args) {
        noDoorsNobodyHourNought();
        lettersFrom0To255();
        lettersAreAtMost96();
        a97thLetterChangesNoTown();
        eachStatementEndsWithThe96thLetter();
        atLeastOneStatement();
        everyLetterAtEveryPlace();
        theEndIfSomethingLacks();
        theEndOfAFullRow();
        theFirstFaultOfTheShape();
        shapeBeforeSense();
        theFirstStatementThatIsNotSo();
        lettersAreNoMoreWithAFault();
        roomsAndFigureOfADoor();
        roomsAndMoodOfAPerson();
        nobodySoFar();
        noSuchDoor();
        hoursFrom1To60();
        hourAbove999();
        theNinthAndATenthDoor();
        theSixthAndASeventhPerson();
        withAFaultNothing();
        DUE.end();
    }

    private static void town(int want, String text) {
        DUE.is("town of \"" + text + "\"", want, Due.tell(new DoorsOneSide(), text));
    }

    /** Promise 1: "No DOORS, nobody, HOUR 0." */
    private static void noDoorsNobodyHourNought() {
        DoorsOneSide x = new DoorsOneSide();
        int[] whats = {0, 1, 2, 3, 4, 5, 6, 7, 11, 12, 13, 14, 15, 16};
        for (int what : whats) {
            DUE.is("count(" + what + ") when new", 0, x.count(what));
        }
        DUE.is("all ROOMS are empty when new", 255, x.crowd(2));
        DUE.is("no DOOR leads anywhere when new", 255, x.crowd(3));
    }

    /** "A letter (0 .. 255) comes". */
    private static void lettersFrom0To255() {
        DoorsOneSide x = new DoorsOneSide();
        DUE.is("letter(-1)", -4, x.letter(-1));
        DUE.is("letter(0)", 1, x.letter(0));
        DUE.is("letter(255)", 2, x.letter(255));
        DUE.is("letter(256)", -6, x.letter(256));
        DUE.is("letters", 2, x.count(7));
    }

    /** "96 at most"; "-6 (255; 96, too)". */
    private static void lettersAreAtMost96() {
        DoorsOneSide x = new DoorsOneSide();
        for (int i = 1; i <= 96; i++) {
            DUE.is("letter " + i, i, x.letter('h'));
        }
        DUE.is("a 97th letter", -6, x.letter('h'));
        DUE.is("a 97th letter above 255", -6, x.letter(256));
        DUE.is("a 97th letter below 0", -4, x.letter(-1));
        DUE.is("letters", 96, x.count(7));
        x.town();
        DUE.is("letters behind town()", 0, x.count(7));
        DUE.is("the first letter behind it", 1, x.letter('h'));
    }

    private static void a97thLetterChangesNoTown() {
        DoorsOneSide x = new DoorsOneSide();
        for (char c : "h01;".repeat(24).toCharArray()) {
            x.letter(c);
        }
        DUE.is("a 97th letter", -6, x.letter('x'));
        DUE.is("town of 96 letters", 24, x.town());
        DUE.is("HOUR", 24, x.count(2));
        town(23, "p000;".repeat(3) + "h01;".repeat(20));
    }

    private static void eachStatementEndsWithThe96thLetter() {
        DoorsOneSide x = new DoorsOneSide();
        DUE.is("w0; last", 31, Due.tell(x, "dp001;" + "w0;".repeat(30)));
        DUE.is("WEDGED thirty times", 0, x.door(0, 4));
        DUE.is("t0; last", 31, Due.tell(x, "dp223;" + "t0;".repeat(29) + "t1;"));
        DUE.is("turned 29 times", 0, x.door(0, 3));
        DUE.is("turned once", 2, x.door(1, 3));
        DUE.is("w2; last", -2093, Due.tell(x, "w0;".repeat(31) + "w2;"));
        DUE.is("t2; last", -2093, Due.tell(x, "w0;".repeat(31) + "t2;"));
        x = Due.of("dp001;dp223;");
        DUE.is("a DOOR last", 31, Due.tell(x, "w0;".repeat(30) + "dk967;"));
        DUE.is("the last DOOR's FIGURE", 9, x.door(2, 1));
        DUE.is("the last DOOR's ROOM into", 7, x.door(2, 3));
        DUE.is("HOURS last", 24, Due.tell(x, "h01;".repeat(23) + "h60;"));
        DUE.is("HOUR", 83, x.count(2));
        DUE.is("one of PEOPLE last", 30, Due.tell(x, "w0;".repeat(27) + "p005;p119;p769;"));
        DUE.is("the last one's MOOD", 9, x.person(2, 2));
        DUE.is("a GOAL last", 24, Due.tell(x, "g01;".repeat(23) + "g17;"));
        DUE.is("his GOAL", 7, x.person(1, 1));
        DUE.is("a ROOM last", 24, Due.tell(x, "r01;".repeat(23) + "r10;"));
        DUE.is("his ROOM", 0, x.person(1, 0));
    }

    /** "At least one STATEMENT." */
    private static void atLeastOneStatement() {
        DoorsOneSide x = new DoorsOneSide();
        DUE.is("town of no letters", -1000, x.town());
        DUE.is("town of no letters again", -1000, x.town());
        town(1, "h01;");
        DoorsOneSide y = Due.of("p015;");
        DUE.is("no letters where there is a town", -1000, y.town());
        DUE.is("PEOPLE stay", 1, y.count(1));
    }

    /** "kind 1 the place of the first letter with which no TOWN can go on": all 256 letters at all places. */
    private static void everyLetterAtEveryPlace() {
        String[] befores = {"", "h01;", "dp001;p000;"};
        for (String before : befores) {
            for (String shape : SHAPES) {
                for (int place = 0; place < shape.length(); place++) {
                    for (int c = 0; c < 256; c++) {
                        everyLetter(before, shape, place, (char) c);
                    }
                }
            }
        }
    }

    private static void everyLetter(String before, String shape, int place, char c) {
        int at = before.length() + place;
        String text = before + shape.substring(0, place) + c;
        boolean isDone = place == shape.length() - 1 && c == ';';
        if (isDone) {
            int got = Due.tell(new DoorsOneSide(), text);
            DUE.is("the shape of \"" + text + "\"", 1, got > 0 || got <= -2000 ? 1 : 0);
        } else {
            town(goesOn(shape, place, c) ? -1000 - (at + 1) : -1000 - at, text);
        }
    }

    private static boolean goesOn(String shape, int place, char c) {
        if (place == 0) {
            return "dpgrwth".indexOf(c) >= 0;
        }
        if (place == shape.length() - 1) {
            return c == ';';
        }
        if (place == 1 && shape.charAt(0) == 'd') {
            return "pskcob".indexOf(c) >= 0;
        }
        return "0123456789".indexOf(c) >= 0;
    }

    /** "the end, if something lacks". */
    private static void theEndIfSomethingLacks() {
        for (String shape : SHAPES) {
            for (int length = 1; length < shape.length(); length++) {
                town(-1000 - length, shape.substring(0, length));
                town(-1000 - 5 - length, "p000;" + shape.substring(0, length));
            }
        }
    }

    private static void theEndOfAFullRow() {
        String rest = "h01;".repeat(23);
        town(-1096, rest + "dp00");
        town(-1096, rest + "p000");
        town(-1095, rest + "h01");
        town(-1095, rest + "h010");
        town(-1094, rest + "h0;0");
        town(-1092, rest + ";h01");
        town(-1000, "x" + rest + "h01");
    }

    private static void theFirstFaultOfTheShape() {
        town(-1002, "dpx0x;");
        town(-1001, "w;w;");
        town(-1006, "dp001;;dp001");
        town(-1004, "h01;;;");
    }

    /** "else kind 2": a FAULT of the shape is told first, however late it is. */
    private static void shapeBeforeSense() {
        town(-1004, "h00;x");
        town(-1095, "h00;" + "h01;".repeat(22) + "h01x");
        town(-1096, "h00;" + "h01;".repeat(22) + "p000");
        town(-1003, "h00");
        town(-1005, "dp000");
        town(-1005, "dp888x");
    }

    /** "the place of the first letter of the first STATEMENT that is not as it must be". */
    private static void theFirstStatementThatIsNotSo() {
        town(-2000, "h00;h00;");
        town(-2004, "h01;h00;h61;");
        town(-2009, "h01;p000;g10;g01;");
        town(-2011, "dp001;p000;w1;t1;");
        town(-2092, "h01;".repeat(23) + "h00;");
    }

    /** "The letters become a TOWN, and are no more": with a FAULT too; "nothing is counted". */
    private static void lettersAreNoMoreWithAFault() {
        String[] texts = {"", "x", "d", "dp001;p", "h00;", "p000;g10;", "h01;".repeat(23) + "p000", "h01;"};
        for (String text : texts) {
            DoorsOneSide x = new DoorsOneSide();
            Due.tell(x, text);
            DUE.is("letters behind \"" + text + "\"", 0, x.count(7));
            DUE.is("the next town behind \"" + text + "\"", 1, Due.tell(x, "h01;"));
            for (int refused : Calls.refusals(x)) {
                DUE.is("REFUSALS behind \"" + text + "\"", 0, refused);
            }
        }
    }

    /** "a number out of range, one ROOM twice": ROOMS 0 .. 7, FIGURE 0 .. 9. */
    private static void roomsAndFigureOfADoor() {
        for (int from = 0; from < 10; from++) {
            for (int into = 0; into < 10; into++) {
                boolean fits = from < 8 && into < 8 && from != into;
                town(fits ? 1 : -2000, "ds9" + from + into + ";");
                town(fits ? 2 : -2004, "h01;ds0" + from + into + ";");
            }
        }
        for (int figure = 0; figure < 10; figure++) {
            DoorsOneSide x = Due.of("dk" + figure + "70;");
            DUE.is("FIGURE told", figure, x.door(0, 1));
            DUE.is("the ROOM from", 7, x.door(0, 2));
            DUE.is("the ROOM into", 0, x.door(0, 3));
            DUE.is("not WEDGED at first", 0, x.door(0, 4));
        }
    }

    /** ROOMS 0 .. 7, MOOD 0 .. 9; his ROOM may be his GOAL. */
    private static void roomsAndMoodOfAPerson() {
        for (int i = 0; i < 1000; i++) {
            int room = i / 100;
            int goal = i / 10 % 10;
            DoorsOneSide x = new DoorsOneSide();
            boolean fits = room < 8 && goal < 8;
            DUE.is("p" + i, fits ? 1 : -2000, Due.tell(x, "p" + room + goal + i % 10 + ";"));
            DUE.is("PEOPLE then", fits ? 1 : 0, x.count(1));
            DUE.is("MOOD then", fits ? i % 10 : -1, x.person(0, 2));
        }
    }

    /** "nobody so far with that number", for each number of PEOPLE there can be. */
    private static void nobodySoFar() {
        for (int people = 0; people <= 6; people++) {
            String before = SIX_PEOPLE.substring(0, 5 * people);
            for (int i = 0; i < 100; i++) {
                boolean fits = i / 10 < people && i % 10 < 8;
                String told = i / 10 + "" + i % 10 + ";";
                town(fits ? people + 1 : -2000 - 5 * people, before + "g" + told);
                town(fits ? people + 1 : -2000 - 5 * people, before + "r" + told);
            }
        }
        town(-2000, "g00;p000;");
        town(-2000, "r00;p000;");
        DoorsOneSide x = Due.of(SIX_PEOPLE);
        DUE.is("g57;", 1, Due.tell(x, "g57;"));
        DUE.is("the last one's GOAL", 7, x.person(5, 1));
        DUE.is("r50;", 1, Due.tell(x, "r50;"));
        DUE.is("the last one's ROOM", 0, x.person(5, 0));
    }

    /** "no such DOOR", for each number of DOORS there can be. */
    private static void noSuchDoor() {
        for (int doors = 0; doors <= 9; doors++) {
            String before = NINE_DOORS.substring(0, 6 * doors);
            for (int i = 0; i < 10; i++) {
                town(i < doors ? doors + 1 : -2000 - 6 * doors, before + "w" + i + ";");
                town(i < doors ? doors + 1 : -2000 - 6 * doors, before + "t" + i + ";");
            }
        }
        town(-2000, "w0;dp001;");
        town(-2000, "t0;dp001;");
        DoorsOneSide x = Due.of(NINE_DOORS + "w8;t8;");
        DUE.is("the last DOOR is WEDGED", 1, x.door(8, 4));
        DUE.is("its handle is on the other side", 1, x.door(8, 3));
        Due.tell(x, "w8;");
        DUE.is("told again, not", 0, x.door(8, 4));
    }

    /** "h" HOURS (2 digits, 1 .. 60). */
    private static void hoursFrom1To60() {
        for (int n = 0; n < 100; n++) {
            DoorsOneSide x = new DoorsOneSide();
            boolean fits = n >= 1 && n <= 60;
            DUE.is("h" + n, fits ? 1 : -2000, Due.tell(x, "h" + n / 10 + n % 10 + ";"));
            DUE.is("HOUR then", fits ? n : 0, x.count(2));
        }
    }

    /** "HOUR above 999". */
    private static void hourAbove999() {
        DoorsOneSide x = new DoorsOneSide();
        DUE.is("960 HOURS", 16, Due.tell(x, "h60;".repeat(16)));
        DUE.is("h40; at 960", -2000, Due.tell(x, "h40;"));
        DUE.is("h60; at 960", -2000, Due.tell(x, "h60;"));
        DUE.is("h39;h01; at 960", -2004, Due.tell(x, "h39;h01;"));
        DUE.is("h38;h01;h01; at 960", -2008, Due.tell(x, "h38;h01;h01;"));
        DUE.is("HOUR", 960, x.count(2));
        DUE.is("h39; at 960", 1, Due.tell(x, "h39;"));
        DUE.is("HOUR at its end", 999, x.count(2));
        DUE.is("h01; at 999", -2000, Due.tell(x, "h01;"));
        DUE.is("h00; at 999", -2000, Due.tell(x, "h00;"));
        DUE.is("other STATEMENTS at 999", 2, Due.tell(x, "p015;r01;"));
        town(-2064, "h60;".repeat(17));
        town(-2064, "h60;".repeat(16) + "h40;h39;");
    }

    /** "DOORS 0 .. as they come (9 at most)"; "no room for more". */
    private static void theNinthAndATenthDoor() {
        town(9, NINE_DOORS);
        town(-2054, NINE_DOORS + "dp001;");
        town(-2059, NINE_DOORS + "p000;w9;");
        DoorsOneSide x = Due.of(NINE_DOORS.substring(0, 48));
        DUE.is("DOORS", 8, x.count(0));
        DUE.is("two more", -2006, Due.tell(x, "dp017;dp017;"));
        DUE.is("DOORS still", 8, x.count(0));
        DUE.is("the ninth", 1, Due.tell(x, "dp917;"));
        DUE.is("DOORS then", 9, x.count(0));
        DUE.is("a tenth", -2000, Due.tell(x, "dp001;"));
        DUE.is("DOORS behind it", 9, x.count(0));
        DUE.is("the ninth is as told", 9, x.door(8, 1));
        DUE.is("it opens the way", 1, x.way(1, 7, 0));
    }

    /** "PEOPLE 0 .. as they come (6 at most)"; "no room for more". */
    private static void theSixthAndASeventhPerson() {
        town(6, SIX_PEOPLE);
        town(-2030, SIX_PEOPLE + "p000;");
        DoorsOneSide x = Due.of(SIX_PEOPLE.substring(0, 25));
        DUE.is("PEOPLE", 5, x.count(1));
        DUE.is("two more", -2005, Due.tell(x, "p666;p777;"));
        DUE.is("PEOPLE still", 5, x.count(1));
        DUE.is("the sixth", 1, Due.tell(x, "p769;"));
        DUE.is("PEOPLE then", 6, x.count(1));
        DUE.is("a seventh", -2000, Due.tell(x, "p000;"));
        DUE.is("PEOPLE behind it", 6, x.count(1));
        DUE.is("the sixth is as told", 7, x.person(5, 0));
        DUE.is("MOODS", 0 + 1 + 2 + 3 + 4 + 9, x.count(5));
    }

    /** "Without FAULT all of it comes, with one nothing": each STATEMENT before a FAULT of each kind. */
    private static void withAFaultNothing() {
        String[] faults = {"h00;", "h99;", "dp000;", "dp081;", "p080;", "g60;", "r08;", "w9;", "t9;", "x", "h0"};
        for (String fault : faults) {
            DoorsOneSide x = Due.of("do001;dp012;p025;p115;");
            DoorsOneSide twin = Due.of("do001;dp012;p025;p115;");
            int got = Due.tell(x, "dp234;p345;g07;r17;w0;t1;h02;" + fault);
            int kind = fault.equals("x") ? -1029 : fault.equals("h0") ? -1031 : -2029;
            DUE.is("a town that ends with " + fault, kind, got);
            DUE.is("all is as before " + fault, 1, Calls.look(x).equals(Calls.look(twin)) ? 1 : 0);
        }
    }
}
