import java.lang.reflect.Field;

/** The edges of promises 4 to 12, of KINDS, WAY and HOUR. */
public final class HourBoundTest {
    private static final Due DUE = new Due("HourBoundTest");
    private static final String KINDS = "pskcob";

    public static void main(String[] args) throws ReflectiveOperationException {
        theFirstAndTheLastDoor();
        theFirstAndTheLastPerson();
        nextIsNone();
        wedgedOrNotAnyMore();
        handlesOfTheFirstAndTheLastRoom();
        standsAndWantsFromFirstToLastRoom();
        moodsFrom0To9();
        kindsFrom0To5AndFiguresFrom0To9();
        hoursFrom1To60();
        homeFromNobodyToAll();
        plainByOneHelper();
        stiffByAThirdCut();
        knockedByTheBestMood();
        catByOddHours();
        ownAlways();
        boltedByTwoHelpers();
        wedgedAlways();
        moodIsNoughtAtLeast();
        theLongestWay();
        letIs9999AtMost();
        DUE.end();
    }

    /** Nine DOORS, of which the last is like no other. */
    private static DoorsOneSide nineDoors() {
        return Due.of("dp001;dp001;dp001;dp001;dp001;dp001;dp001;dp001;db976;w8;");
    }

    /** Promise 4: what 0 .. 4, of the DOORS 0 and 8. */
    private static void theFirstAndTheLastDoor() {
        DoorsOneSide x = nineDoors();
        int[] first = {0, 0, 0, 1, 0};
        int[] last = {5, 9, 7, 6, 1};
        for (int what = 0; what <= 4; what++) {
            DUE.is("door(0, " + what + ")", first[what], x.door(0, what));
            DUE.is("door(8, " + what + ")", last[what], x.door(8, what));
        }
        DUE.is("door(9, 0)", -1, x.door(9, 0));
        DUE.is("door(-1, 0)", -1, x.door(-1, 0));
        DUE.is("door(8, 5)", -2, x.door(8, 5));
        DUE.is("door(8, -1)", -2, x.door(8, -1));
    }

    /** Promise 5: what 0 .. 3, of the PEOPLE 0 and 5. */
    private static void theFirstAndTheLastPerson() {
        DoorsOneSide x = Due.of("do070;p000;p111;p111;p111;p111;p709;");
        int[] first = {0, 0, 0, -9};
        int[] last = {7, 0, 9, 0};
        for (int what = 0; what <= 3; what++) {
            DUE.is("person(0, " + what + ")", first[what], x.person(0, what));
            DUE.is("person(5, " + what + ")", last[what], x.person(5, what));
        }
        DUE.is("person(6, 0)", -1, x.person(6, 0));
        DUE.is("person(-1, 0)", -1, x.person(-1, 0));
        DUE.is("person(5, 4)", -2, x.person(5, 4));
        DUE.is("person(5, -1)", -2, x.person(5, -1));
    }

    /** NEXT: "-9" in his GOAL, without a WAY, and where none OPENS. */
    private static void nextIsNone() {
        DoorsOneSide x = Due.of("dp001;do012;p015;p115;p275;");
        x.stands(1, 2);
        x.wants(1, 2);
        DUE.is("NEXT in his GOAL", -9, x.person(1, 3));
        DUE.is("NEXT without a WAY", -9, x.person(2, 3));
        DUE.is("NEXT where none opens", -9, x.person(0, 3));
        x.stands(1, 1);
        DUE.is("NEXT where one lets him in", 0, x.person(0, 3));
        DUE.is("nothing is refused by it", 0, x.count(11) + x.count(12));
    }

    /** Promise 6: "WEDGED, or not any more: 1, 0". */
    private static void wedgedOrNotAnyMore() {
        DoorsOneSide x = nineDoors();
        DUE.is("wedges(0)", 1, x.wedges(0));
        DUE.is("wedges(0) again", 0, x.wedges(0));
        DUE.is("wedges(0) a third time", 1, x.wedges(0));
        DUE.is("wedges(8), which was", 0, x.wedges(8));
        DUE.is("door(8, 4)", 0, x.door(8, 4));
        DUE.is("wedges(9)", -1, x.wedges(9));
    }

    /** Promise 7: "the ROOM into then". */
    private static void handlesOfTheFirstAndTheLastRoom() {
        DoorsOneSide x = Due.of("dp001;dp001;dp001;dp001;dp001;dp001;dp001;dp001;dp007;");
        DUE.is("turns(8)", 0, x.turns(8));
        DUE.is("turns(8) again", 7, x.turns(8));
        DUE.is("turns(0)", 0, x.turns(0));
        DUE.is("the others are as they were", 1, x.door(1, 3));
        DUE.is("turns(9)", -1, x.turns(9));
        DUE.is("WAY back by the turned one", 1, x.way(1, 0, 0));
    }

    /** Promises 8 and 9: "where he was", "which was". */
    private static void standsAndWantsFromFirstToLastRoom() {
        DoorsOneSide x = Due.of("p335;p335;p335;p335;p335;p335;");
        for (int person = 0; person <= 5; person += 5) {
            DUE.is("stands in 0", 3, x.stands(person, 0));
            DUE.is("stands in 7", 0, x.stands(person, 7));
            DUE.is("stands where he is", 7, x.stands(person, 7));
            DUE.is("stands in 8", -1, x.stands(person, 8));
            DUE.is("stands in -1", -1, x.stands(person, -1));
            DUE.is("ROOM", 7, x.person(person, 0));
            DUE.is("GOAL is as it was", 3, x.person(person, 1));
            DUE.is("wants 0", 3, x.wants(person, 0));
            DUE.is("wants 7", 0, x.wants(person, 7));
            DUE.is("wants what he wants", 7, x.wants(person, 7));
            DUE.is("wants 8", -1, x.wants(person, 8));
            DUE.is("wants -1", -1, x.wants(person, -1));
            DUE.is("GOAL", 7, x.person(person, 1));
            DUE.is("ROOM is as it was", 7, x.person(person, 0));
        }
        DUE.is("stands of nobody", -1, x.stands(6, 0));
        DUE.is("wants of nobody", -1, x.wants(6, 0));
        DUE.is("the others stay", 3, x.person(1, 0));
        DUE.is("-1 counted", 10, x.count(11));
    }

    /** Promise 10: "-4; -6 9". */
    private static void moodsFrom0To9() {
        DoorsOneSide x = Due.of("p005;p005;p005;p005;p005;p005;");
        for (int person = 0; person <= 5; person += 5) {
            DUE.is("MOOD -1", -4, x.moods(person, -1));
            DUE.is("MOOD 10", -6, x.moods(person, 10));
            DUE.is("MOOD 0", 5, x.moods(person, 0));
            DUE.is("MOOD 9", 0, x.moods(person, 9));
            DUE.is("MOOD is", 9, x.person(person, 2));
        }
        DUE.is("moods of nobody", -1, x.moods(6, 0));
        DUE.is("all MOODS", 9 + 5 * 4 + 9, x.count(5));
    }

    /** Promise 11: KINDS 0 .. 5, "-4; -6 9", "10 times the KIND and the FIGURE it had". */
    private static void kindsFrom0To5AndFiguresFrom0To9() {
        DoorsOneSide x = nineDoors();
        for (int door = 0; door <= 8; door += 8) {
            int had = door == 0 ? 0 : 59;
            for (int kind = 0; kind <= 5; kind++) {
                DUE.is("changes to " + kind + ", 0", had, x.changes(door, kind, 0));
                DUE.is("changes to " + kind + ", 9", 10 * kind, x.changes(door, kind, 9));
                had = 10 * kind + 9;
            }
            DUE.is("KIND -1", -2, x.changes(door, -1, 0));
            DUE.is("KIND 6", -2, x.changes(door, 6, 0));
            DUE.is("FIGURE -1", -4, x.changes(door, 0, -1));
            DUE.is("FIGURE 10", -6, x.changes(door, 0, 10));
            DUE.is("behind the refusals", 59, x.changes(door, 0, 0));
        }
        DUE.is("changes of no DOOR", -1, x.changes(9, 0, 0));
        DUE.is("it stays WEDGED", 1, x.door(8, 4));
    }

    /** Promise 12: "n HOURS (1 .. 60) go by". */
    private static void hoursFrom1To60() {
        DoorsOneSide x = new DoorsOneSide();
        DUE.is("hours(0)", -4, x.hours(0));
        DUE.is("hours(61)", -6, x.hours(61));
        DUE.is("HOUR", 0, x.count(2));
        DUE.is("hours(1)", 0, x.hours(1));
        DUE.is("HOUR", 1, x.count(2));
        DUE.is("hours(60)", 0, x.hours(60));
        DUE.is("HOUR", 61, x.count(2));
        Calls.times(15, x, "hours 60");
        DUE.is("HOUR", 961, x.count(2));
        DUE.is("hours(39) at 961", -6, x.hours(39));
        DUE.is("hours(38) at 961", 0, x.hours(38));
        DUE.is("HOUR at its end", 999, x.count(2));
        DUE.is("hours(1) at 999", -6, x.hours(1));
        DUE.is("hours(61) at 999", -6, x.hours(61));
        DUE.is("hours(0) at 999", -4, x.hours(0));
        DUE.is("HOUR still", 999, x.count(2));
    }

    private static void homeFromNobodyToAll() {
        DUE.is("nobody there", 0, new DoorsOneSide().hours(1));
        DUE.is("nobody home", 0, Due.of("p015;").hours(60));
        DUE.is("all six", 6, Due.of("do001;p015;p015;p015;p015;p015;p015;").hours(1));
    }

    /** Who wants into ROOM 1 by the DOOR, with so many of a MOOD in it, at an HOUR. */
    private static void opens(boolean want, char kind, int figure, int hour, String moods) {
        DoorsOneSide x = Due.of("d" + kind + figure + "01;p771;");
        if (hour > 1) {
            x.hours(hour - 1);
        }
        for (char mood : moods.toCharArray()) {
            Due.tell(x, "p11" + mood + ";");
        }
        x.stands(0, 0);
        x.wants(0, 1);
        String told = kind + " of " + figure + " in HOUR " + hour + " by MOODS " + moods;
        DUE.is("OPEN: " + told, want ? 1 : 0, x.open());
        DUE.is("NEXT: " + told, want ? 0 : -9, x.person(0, 3));
        x.hours(1);
        DUE.is("ROOM: " + told, want ? 1 : 0, x.person(0, 0));
        DUE.is("LET: " + told, want ? 1 : 0, x.count(3));
        DUE.is("MOOD: " + told, want ? 1 : 0, x.person(0, 2));
    }

    /** "p PLAIN: HELPERS 1 or more." */
    private static void plainByOneHelper() {
        for (int hour = 1; hour <= 2; hour++) {
            opens(false, 'p', 9, hour, "");
            opens(true, 'p', 9, hour, "0");
            opens(true, 'p', 0, hour, "00000");
        }
    }

    /** "a third of FIGURE, cut, and 2 divides HOUR": by 2 up to FIGURE 2, by 3 up to 5, by 4 up to 8, by 5 at 9. */
    private static void stiffByAThirdCut() {
        int[][] figures = {{0, 2}, {2, 2}, {3, 3}, {5, 3}, {6, 4}, {8, 4}, {9, 5}};
        for (int[] f : figures) {
            opens(false, 's', f[0], f[1] - 1, "9");
            opens(true, 's', f[0], f[1], "9");
            opens(false, 's', f[0], f[1] + 1, "9");
            opens(true, 's', f[0], 2 * f[1], "0");
            opens(false, 's', f[0], f[1], "");
            opens(false, 'b', f[0], f[1] - 1, "99");
            opens(true, 'b', f[0], f[1], "99");
            opens(false, 'b', f[0], f[1] + 1, "99");
        }
    }

    /** "the best MOOD is FIGURE or more": that of one who is there, the highest. */
    private static void knockedByTheBestMood() {
        opens(false, 'k', 0, 1, "");
        opens(true, 'k', 0, 1, "0");
        opens(false, 'k', 1, 1, "0");
        opens(false, 'k', 5, 1, "4");
        opens(true, 'k', 5, 1, "5");
        opens(true, 'k', 5, 1, "6");
        opens(false, 'k', 9, 1, "88888");
        opens(true, 'k', 9, 1, "9");
        opens(true, 'k', 9, 1, "90000");
        opens(true, 'k', 9, 1, "00009");
        opens(true, 'k', 5, 2, "050");
    }

    /** "if HOUR is odd, or as a PLAIN one". */
    private static void catByOddHours() {
        opens(true, 'c', 9, 1, "");
        opens(false, 'c', 0, 2, "");
        opens(true, 'c', 9, 3, "");
        opens(true, 'c', 9, 2, "0");
        opens(true, 'c', 9, 1, "0");
    }

    /** "if HOUR is even, or as a CAT one (that is always)". */
    private static void ownAlways() {
        for (int hour = 1; hour <= 4; hour++) {
            opens(true, 'o', 9, hour, "");
            opens(true, 'o', 0, hour, "0");
        }
    }

    /** "as a STIFF one, with HELPERS 2 or more". */
    private static void boltedByTwoHelpers() {
        opens(false, 'b', 0, 2, "");
        opens(false, 'b', 0, 2, "9");
        opens(true, 'b', 0, 2, "00");
        opens(true, 'b', 0, 2, "00000");
        opens(false, 'b', 0, 1, "99");
        opens(false, 'b', 0, 3, "99");
    }

    /** "WEDGED: always, whatever it is." */
    private static void wedgedAlways() {
        for (char kind : KINDS.toCharArray()) {
            for (int hour = 1; hour <= 2; hour++) {
                DoorsOneSide x = Due.of("d" + kind + "901;w0;p771;");
                x.hours(hour);
                x.stands(0, 0);
                x.wants(0, 1);
                DUE.is("OPEN, WEDGED " + kind, 1, x.open());
                DUE.is("NEXT, WEDGED " + kind, 0, x.person(0, 3));
                DUE.is("hours(1), WEDGED " + kind, 1, x.hours(1));
            }
        }
    }

    /** "he stays, his MOOD 1 less (0 at least)". */
    private static void moodIsNoughtAtLeast() {
        DoorsOneSide x = Due.of("dp001;do023;p011;p770;p233;p372;p019;");
        x.hours(1);
        DUE.is("MOOD 1 is 0", 0, x.person(0, 2));
        DUE.is("MOOD in his GOAL stays", 0, x.person(1, 2));
        DUE.is("MOOD of who goes stays", 3, x.person(2, 2));
        DUE.is("MOOD without a WAY falls too", 1, x.person(3, 2));
        x.hours(1);
        DUE.is("MOOD 0 stays 0", 0, x.person(0, 2));
        DUE.is("MOOD at home stays", 3, x.person(2, 2));
        x.hours(6);
        DUE.is("MOOD 9 is 1 behind 8", 1, x.person(4, 2));
        x.hours(1);
        DUE.is("MOOD 9 is 0 behind 9", 0, x.person(4, 2));
        x.hours(51);
        DUE.is("all MOODS", 3, x.count(5));
    }

    /** WAY: "the fewest DOORS one behind the other": seven at most in eight ROOMS. */
    private static void theLongestWay() {
        DoorsOneSide x = Due.of("do010;do021;do032;do043;do054;do065;do076;p705;");
        DUE.is("way(7, 0, 0)", 7, x.way(7, 0, 0));
        DUE.is("home(0)", 7, x.home(0));
        DUE.is("hours(6)", 0, x.hours(6));
        DUE.is("ROOM", 1, x.person(0, 0));
        DUE.is("hours(1)", 1, x.hours(1));
        DUE.is("LET", 7, x.count(3));
        DUE.is("hours(60) in his GOAL", 1, x.hours(60));
        DUE.is("LET stays", 7, x.count(3));
    }

    /**
     * "LET is 1 more (9999 at most)": six of PEOPLE in 999 HOURS come through 5994 times at most, so no calls
     * lead there; the number is put into the object.
     */
    private static void letIs9999AtMost() throws ReflectiveOperationException {
        DoorsOneSide x = Due.of("do001;p015;p015;p015;");
        Field now = DoorsOneSide.class.getDeclaredField("now");
        now.setAccessible(true);
        Field let = now.getType().getDeclaredField("let");
        let.setAccessible(true);
        let.setInt(now.get(x), 9997);
        DUE.is("letThen(0)", 9997, x.letThen(0));
        DUE.is("letThen(1)", 9999, x.letThen(1));
        DUE.is("hours(1)", 3, x.hours(1));
        DUE.is("LET", 9999, x.count(3));
        x.stands(0, 0);
        x.hours(1);
        DUE.is("LET behind one more", 9999, x.count(3));
    }
}
