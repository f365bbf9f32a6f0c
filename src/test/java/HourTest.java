/** Promises 4 to 12, the KINDS of DOORS, the WAY people take, and what an HOUR does. */
public final class HourTest {
    private static final Due DUE = new Due("HourTest");

    public static void main(String[] args) {
        doors();
        people();
        wedgesAndTurns();
        standsAndWants();
        moods();
        changes();
        kinds();
        byNumbers();
        asAllAreThen();
        shortestWay();
        leastDoorThatOpens();
        moodsFall();
        hours();
        next();
        DUE.end();
    }

    private static void doors() {
        DoorsOneSide x = Due.of("ds912;db037;w1;");
        int[] first = {1, 9, 1, 2, 0};
        int[] second = {5, 0, 3, 7, 1};
        for (int what = 0; what < 5; what++) {
            DUE.is("door(0, " + what + ")", first[what], x.door(0, what));
            DUE.is("door(1, " + what + ")", second[what], x.door(1, what));
        }
        DUE.is("door(2, 0)", -1, x.door(2, 0));
        DUE.is("door(-1, 0)", -1, x.door(-1, 0));
        DUE.is("door(0, 5)", -2, x.door(0, 5));
        DUE.is("door(0, -1)", -2, x.door(0, -1));
        DUE.is("door(2, 5): -1 goes first", -1, x.door(2, 5));
        DUE.is("-1 counted", 3, x.count(11));
        DUE.is("-2 counted", 2, x.count(12));
    }

    private static void people() {
        DoorsOneSide x = Due.of("p123;p450;");
        int[] first = {1, 2, 3, -9};
        int[] second = {4, 5, 0, -9};
        for (int what = 0; what < 4; what++) {
            DUE.is("person(0, " + what + ")", first[what], x.person(0, what));
            DUE.is("person(1, " + what + ")", second[what], x.person(1, what));
        }
        DUE.is("person(2, 0)", -1, x.person(2, 0));
        DUE.is("person(-1, 0)", -1, x.person(-1, 0));
        DUE.is("person(0, 4)", -2, x.person(0, 4));
        DUE.is("person(0, -1)", -2, x.person(0, -1));
        DUE.is("person(2, 4): -1 goes first", -1, x.person(2, 4));
    }

    private static void wedgesAndTurns() {
        DoorsOneSide x = Due.of("dp001;dp023;");
        DUE.is("wedges(1)", 1, x.wedges(1));
        DUE.is("wedges(1) again", 0, x.wedges(1));
        DUE.is("wedges(0)", 1, x.wedges(0));
        DUE.is("door(0, 4)", 1, x.door(0, 4));
        DUE.is("door(1, 4)", 0, x.door(1, 4));
        DUE.is("wedges(2)", -1, x.wedges(2));
        DUE.is("wedges(-1)", -1, x.wedges(-1));
        DUE.is("turns(1)", 2, x.turns(1));
        DUE.is("door(1, 2)", 3, x.door(1, 2));
        DUE.is("door(1, 3)", 2, x.door(1, 3));
        DUE.is("way(3, 2, 0)", 1, x.way(3, 2, 0));
        DUE.is("way(2, 3, 0)", -9, x.way(2, 3, 0));
        DUE.is("turns(1) again", 3, x.turns(1));
        DUE.is("turns(0) wedged", 0, x.turns(0));
        DUE.is("still wedged", 1, x.door(0, 4));
        DUE.is("turns(2)", -1, x.turns(2));
        DUE.is("turns(-1)", -1, x.turns(-1));
        DUE.is("-1 counted", 4, x.count(11));
    }

    private static void standsAndWants() {
        DoorsOneSide x = Due.of("p123;p450;");
        DUE.is("stands(0, 7)", 1, x.stands(0, 7));
        DUE.is("stands(0, 0)", 7, x.stands(0, 0));
        DUE.is("person(0, 0)", 0, x.person(0, 0));
        DUE.is("person(0, 1)", 2, x.person(0, 1));
        DUE.is("stands(2, 0)", -1, x.stands(2, 0));
        DUE.is("stands(-1, 0)", -1, x.stands(-1, 0));
        DUE.is("stands(0, 8)", -1, x.stands(0, 8));
        DUE.is("stands(0, -1)", -1, x.stands(0, -1));
        DUE.is("wants(1, 7)", 5, x.wants(1, 7));
        DUE.is("wants(1, 4)", 7, x.wants(1, 4));
        DUE.is("person(1, 1)", 4, x.person(1, 1));
        DUE.is("home then", 2, x.count(4));
        DUE.is("wants(2, 0)", -1, x.wants(2, 0));
        DUE.is("wants(-1, 0)", -1, x.wants(-1, 0));
        DUE.is("wants(0, 8)", -1, x.wants(0, 8));
        DUE.is("wants(0, -1)", -1, x.wants(0, -1));
        DUE.is("ROOM after refusals", 0, x.person(0, 0));
        DUE.is("GOAL after refusals", 2, x.person(0, 1));
        DUE.is("-1 counted", 8, x.count(11));
    }

    private static void moods() {
        DoorsOneSide x = Due.of("p123;p450;");
        DUE.is("moods(0, 9)", 3, x.moods(0, 9));
        DUE.is("moods(0, 0)", 9, x.moods(0, 0));
        DUE.is("moods(1, 4)", 0, x.moods(1, 4));
        DUE.is("MOODS", 4, x.count(5));
        DUE.is("moods(2, -1): -1 goes first", -1, x.moods(2, -1));
        DUE.is("moods(0, -1)", -4, x.moods(0, -1));
        DUE.is("moods(0, 10)", -6, x.moods(0, 10));
        DUE.is("MOOD after refusals", 0, x.person(0, 2));
    }

    private static void changes() {
        DoorsOneSide x = Due.of("db701;");
        DUE.is("changes(0, 2, 9)", 57, x.changes(0, 2, 9));
        DUE.is("KIND", 2, x.door(0, 0));
        DUE.is("FIGURE", 9, x.door(0, 1));
        DUE.is("changes(0, 0, 0)", 29, x.changes(0, 0, 0));
        DUE.is("changes(0, 5, 1)", 0, x.changes(0, 5, 1));
        DUE.is("changes(1, 6, -1): -1 goes first", -1, x.changes(1, 6, -1));
        DUE.is("changes(0, 6, -1): -2 goes next", -2, x.changes(0, 6, -1));
        DUE.is("changes(0, -1, 10): -2 goes next", -2, x.changes(0, -1, 10));
        DUE.is("changes(0, 0, -1)", -4, x.changes(0, 0, -1));
        DUE.is("changes(0, 0, 10)", -6, x.changes(0, 0, 10));
        DUE.is("after refusals", 51, x.changes(0, 5, 1));
    }

    /** Whether a door opens, told anew from the document. */
    private static boolean isOpen(char kind, int figure, int hour, int helpers, int best) {
        boolean divides = hour / (figure / 3 + 2) * (figure / 3 + 2) == hour;
        switch (kind) {
            case 'p': return helpers > 0;
            case 's': return helpers > 0 && divides;
            case 'k': return helpers > 0 && best >= figure;
            case 'c': return helpers > 0 || (hour & 1) == 1;
            case 'o': return true;
            default: return helpers > 1 && divides;
        }
    }

    private static void kinds() {
        String kinds = "pskcob";
        for (int k = 0; k < 6; k++) {
            for (int figure = 0; figure < 10; figure++) {
                for (int helpers = 0; helpers < 4; helpers++) {
                    kindsInHours(kinds.charAt(k), figure, helpers);
                }
            }
        }
    }

    private static void kindsInHours(char kind, int figure, int helpers) {
        String people = "p115;p117;p113;".substring(0, 5 * helpers);
        DoorsOneSide x = Due.of("d" + kind + figure + "01;" + people + "p201;p021;");
        int best = helpers == 0 ? 0 : helpers == 1 ? 5 : 7;
        for (int hour = 1; hour <= 12; hour++) {
            boolean opens = isOpen(kind, figure, hour, helpers, best);
            String where = kind + " " + figure + " with " + helpers + " in HOUR " + hour;
            DUE.is("open() of " + where, opens ? 1 : 0, x.open());
            x.wants(helpers + 1, 1);
            DUE.is("NEXT by " + where, opens ? 0 : -9, x.person(helpers + 1, 3));
            DUE.is("in mind by " + where, opens ? 1 : 0, x.personThen(helpers + 1, 1, 0));
            x.wants(helpers + 1, 2);
            x.wedges(0);
            DUE.is("wedged " + where, 1, x.open());
            x.wedges(0);
            x.hours(1);
        }
    }

    private static void byNumbers() {
        DoorsOneSide x = Due.of("do001;dp021;p015;p215;");
        DUE.is("the first lets the second in", 2, x.hours(1));
        x = Due.of("do001;dp021;p215;p015;");
        DUE.is("the first comes too early", 1, x.hours(1));
        DUE.is("his MOOD", 4, x.person(0, 2));
        DUE.is("the other's MOOD", 5, x.person(1, 2));
        DUE.is("an HOUR later", 2, x.hours(1));
        DUE.is("LET", 2, x.count(3));
        x = Due.of("dp010;dp001;p101;p010;");
        DUE.is("who goes first lets nobody in any more", 1, x.hours(1));
    }

    private static void asAllAreThen() {
        DoorsOneSide x = Due.of("dk501;p175;p011;");
        DUE.is("MOOD 5 is 4 when the other knocks", 0, x.hours(1));
        DUE.is("NEXT, were he first", -9, x.person(1, 3));
        x = Due.of("dk501;p176;p011;");
        DUE.is("NEXT, were he first, with MOOD 6", 0, x.person(1, 3));
        DUE.is("MOOD 6 is 5 when the other knocks", 1, x.hours(1));
        x = Due.of("dk101;p110;p015;");
        DUE.is("MOOD 0 is below FIGURE 1", 1, x.hours(1));
        x = Due.of("dk001;p110;p015;");
        DUE.is("MOOD 0 is enough for FIGURE 0", 2, x.hours(1));
        x = Due.of("dk001;p015;");
        DUE.is("but somebody must be there", 0, x.hours(1));
        x = Due.of("dk501;p011;p175;");
        DUE.is("MOOD 5 when the first knocks", 1, x.hours(1));
    }

    private static void shortestWay() {
        DoorsOneSide x = Due.of("dp001;do002;do021;p015;");
        DUE.is("he does not take the longer way", 0, x.hours(3));
        DUE.is("where he is", 0, x.person(0, 0));
        x = Due.of("do001;do013;dp002;dp023;p035;");
        DUE.is("of two ways as long that which opens", 1, x.hours(2));
        DUE.is("where he is", 3, x.person(0, 0));
        x = Due.of("do001;do012;do023;do034;do045;do056;do067;p075;");
        DUE.is("seven doors in six hours", 0, x.hours(6));
        DUE.is("seven doors in seven", 1, x.hours(1));
        DUE.is("LET", 7, x.count(3));
        DUE.is("MOOD stays", 5, x.person(0, 2));
        DUE.is("into 0 by door 0", 1, Due.of("do010;p105;").hours(1));
        x = Due.of("do067;do056;do045;do034;do023;do012;do001;p075;");
        DUE.is("told from behind", 7, x.way(0, 7, 0));
        DUE.is("NEXT", 6, x.person(0, 3));
    }

    private static void leastDoorThatOpens() {
        DoorsOneSide x = Due.of("dp001;do001;do001;p015;");
        DUE.is("the least that opens", 1, x.person(0, 3));
        x.wedges(0);
        DUE.is("the least, wedged", 0, x.person(0, 3));
        x = Due.of("dc001;do001;p015;");
        DUE.is("a cat's in an odd HOUR", 0, x.person(0, 3));
        x.wants(0, 0);
        x.hours(1);
        x.wants(0, 1);
        DUE.is("not a cat's in an even one", 1, x.person(0, 3));
    }

    private static void moodsFall() {
        DoorsOneSide x = Due.of("dp001;p012;p332;p772;p371;");
        DUE.is("home", 2, x.hours(1));
        DUE.is("who waits", 1, x.person(0, 2));
        DUE.is("who is home", 2, x.person(1, 2));
        DUE.is("who has no way", 0, x.person(3, 2));
        x.hours(5);
        DUE.is("0 at least", 0, x.person(0, 2));
        DUE.is("all MOODS", 4, x.count(5));
    }

    private static void hours() {
        DoorsOneSide x = new DoorsOneSide();
        DUE.is("hours(0)", -4, x.hours(0));
        DUE.is("hours(-5)", -4, x.hours(-5));
        DUE.is("hours(61)", -6, x.hours(61));
        DUE.is("hours(greatest int)", -6, x.hours(Integer.MAX_VALUE));
        for (int i = 0; i < 16; i++) {
            DUE.is("hours(60)", 0, x.hours(60));
        }
        DUE.is("hours(40) at 960", -6, x.hours(40));
        DUE.is("HOUR stays", 960, x.count(2));
        DUE.is("hours(39) at 960", 0, x.hours(39));
        DUE.is("hours(1) at 999", -6, x.hours(1));
        DUE.is("hours(0) at 999", -4, x.hours(0));
        DUE.is("HOUR", 999, x.count(2));
        DUE.is("-6 counted", 4, x.count(16));
        Due.tell(x, "dc001;p013;");
        DUE.is("in thought HOUR is 1000: NEXT", -9, x.person(0, 3));
        DUE.is("and then 1001", 2, x.comes(0, 1));
        DUE.is("open() in 1000", 0, x.open());
    }

    private static void next() {
        DoorsOneSide x = Due.of("do001;do012;p025;p115;");
        DUE.is("NEXT", 0, x.person(0, 3));
        DUE.is("NEXT in his GOAL", -9, x.person(1, 3));
        x.wants(0, 7);
        DUE.is("NEXT without a way", -9, x.person(0, 3));
        x = Due.of("dp001;p175;p015;dp017;w1;");
        DUE.is("he would be first: the helper is still there", 0, x.person(1, 3));
        DUE.is("he is not first: the helper is gone", 1, x.hours(1));
        DUE.is("where he is", 0, x.person(1, 0));
    }
}
