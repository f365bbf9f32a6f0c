/**
 * A town of rooms and of doors that open from one side only, told in letters, and what is asked of it.
 * What each call answers stands in shared/DOC.md; words in capitals are terms of that document.
 *
 * Every row of numbers is read by at() and written by put(), so that no place is used unlooked at; all
 * rows are made with the object, so that a call makes nothing.
 */
public final class DoorsOneSide {
    private static final int ROOMS = 8;
    private static final int DOORS_MOST = 9;
    private static final int PEOPLE_MOST = 6;
    private static final int LETTERS_MOST = 96;
    private static final int SIGN_MOST = 255;
    private static final int ROW_MOST = 16;
    private static final int ROW_NUMBER_MOST = 99;
    private static final int DIGIT_MOST = 9;
    private static final int HOUR_MOST = 999;
    private static final int LET_MOST = 9999;
    private static final int GO_MOST = 60;
    private static final int LOOK_MOST = 60;
    private static final int TRY_MOST = 30;
    private static final int FIRE_HOURS_MOST = 7;
    private static final int ODDS_LEAST = 2;
    private static final int ODDS_MOST = 20;
    private static final int NIGHTS_MOST = 20;
    private static final int NIGHT_HOURS = 8;
    private static final int STILL_HOURS = 12;

    private static final int PLAIN = 0;
    private static final int STIFF = 1;
    private static final int KNOCKED = 2;
    private static final int CAT = 3;
    private static final int OWN = 4;
    private static final int BOLTED = 5;
    private static final int KINDS = 6;

    private static final int NONE = -9;
    private static final int EVERYBODY = -1;
    /** No WAY: above every way there is, and so far below int's end that one door more can be added. */
    private static final int FAR = 1000;
    private static final int SHAPE_FAULT = -1000;
    private static final int SENSE_FAULT = -2000;

    private static final int NOBODY = -1;
    private static final int OTHER = -2;
    private static final int STATE = -3;
    private static final int BELOW = -4;
    private static final int NO_ROOM = -6;
    private static final int REFUSAL_KINDS = 6;
    private static final long LONG_REFUSAL = 4000000000000000000L;

    private final Town now;
    /** Whatever is asked in mind goes on here, from a copy of what is now. */
    private final Town mind;
    private final Town taken;
    private boolean imageTaken;
    private final Letters letters;
    private final Row told;
    /** How often each refusal was answered, by its number without the sign. */
    private final int[] refusals;
    /** What TWO have: the first by both choices (0 .. 3), then the other (4 .. 7). */
    private final int[] gains;

    public DoorsOneSide() {
        now = new Town();
        mind = new Town();
        taken = new Town();
        letters = new Letters();
        told = new Row(ROW_MOST);
        refusals = new int[REFUSAL_KINDS + 1];
        gains = new int[8];
    }

    // ---- the town, told and changed ----

    public int letter(int c) {
        if (c < 0) {
            return refused(BELOW);
        }
        if (c > SIGN_MOST || letters.signs.isFull()) {
            return refused(NO_ROOM);
        }
        return letters.signs.add(c);
    }

    public int town() {
        int fault = letters.shapeFault();
        int answer = fault >= 0 ? SHAPE_FAULT - fault : tellStatements();
        letters.signs.empty();
        return answer;
    }

    /** The statements are told in mind first: with a fault among them nothing comes. */
    private int tellStatements() {
        mind.become(now);
        int statements = 0;
        for (int place = 0; place < letters.signs.size; place += Math.max(1, letters.lengthAt(place))) {
            if (!letters.tell(place, mind)) {
                return SENSE_FAULT - place;
            }
            statements++;
        }
        now.become(mind);
        return statements;
    }

    public int door(int door, int what) {
        if (!now.doors.has(door)) {
            return refused(NOBODY);
        }
        switch (what) {
            case 0:
                return at(now.doors.kinds, door);
            case 1:
                return at(now.doors.figures, door);
            case 2:
                return at(now.doors.froms, door);
            case 3:
                return at(now.doors.intos, door);
            case 4:
                return at(now.doors.wedged, door);
            default:
                return refused(OTHER);
        }
    }

    public int person(int person, int what) {
        if (!now.has(person)) {
            return refused(NOBODY);
        }
        switch (what) {
            case 0:
                return at(now.rooms, person);
            case 1:
                return at(now.goals, person);
            case 2:
                return at(now.moods, person);
            case 3:
                return now.doorFor(person, now.hour + 1, false);
            default:
                return refused(OTHER);
        }
    }

    public int wedges(int door) {
        if (!now.doors.has(door)) {
            return refused(NOBODY);
        }
        return now.doors.wedgeOrNot(door);
    }

    public int turns(int door) {
        if (!now.doors.has(door)) {
            return refused(NOBODY);
        }
        return now.doors.changeSides(door);
    }

    public int stands(int person, int room) {
        if (!now.has(person) || !isRoom(room)) {
            return refused(NOBODY);
        }
        return exchange(now.rooms, person, room);
    }

    public int wants(int person, int room) {
        if (!now.has(person) || !isRoom(room)) {
            return refused(NOBODY);
        }
        return exchange(now.goals, person, room);
    }

    public int moods(int person, int v) {
        if (!now.has(person)) {
            return refused(NOBODY);
        }
        if (v < 0 || v > DIGIT_MOST) {
            return refusedNumber(v);
        }
        return exchange(now.moods, person, v);
    }

    public int changes(int door, int kind, int figure) {
        if (!now.doors.has(door)) {
            return refused(NOBODY);
        }
        if (kind < 0 || kind >= KINDS) {
            return refused(OTHER);
        }
        if (figure < 0 || figure > DIGIT_MOST) {
            return refusedNumber(figure);
        }
        return 10 * exchange(now.doors.kinds, door, kind) + exchange(now.doors.figures, door, figure);
    }

    public int hours(int n) {
        if (n < 1) {
            return refused(BELOW);
        }
        if (n > GO_MOST || now.hour + n > HOUR_MOST) {
            return refused(NO_ROOM);
        }
        now.goHours(n, false);
        return now.homeCount();
    }

    // ---- what comes, in mind ----

    public int personThen(int person, int n, int what) {
        if (!now.has(person)) {
            return refused(NOBODY);
        }
        if (n < 0 || n > LOOK_MOST) {
            return refusedNumber(n);
        }
        if (!isHalf(what)) {
            return refused(OTHER);
        }
        mind.become(now);
        mind.goHours(n, false);
        return at(what == 0 ? mind.rooms : mind.moods, person);
    }

    public int letThen(int n) {
        if (n < 0 || n > LOOK_MOST) {
            return refusedNumber(n);
        }
        mind.become(now);
        mind.goHours(n, false);
        return mind.let;
    }

    public int comes(int person, int room) {
        if (!now.has(person) || !isRoom(room)) {
            return refused(NOBODY);
        }
        return firstHourIn(person, room);
    }

    public int home(int person) {
        if (person == EVERYBODY) {
            return firstHourAllHome();
        }
        if (!now.has(person)) {
            return refused(NOBODY);
        }
        return firstHourIn(person, at(now.goals, person));
    }

    private int firstHourIn(int person, int room) {
        mind.become(now);
        for (int n = 0; n <= LOOK_MOST; n++) {
            if (at(mind.rooms, person) == room) {
                return n;
            }
            mind.goHours(1, false);
        }
        return NONE;
    }

    private int firstHourAllHome() {
        mind.become(now);
        for (int n = 0; n <= LOOK_MOST; n++) {
            if (mind.homeCount() == mind.size) {
                return n;
            }
            mind.goHours(1, false);
        }
        return NONE;
    }

    public int shutIn() {
        int bits = 0;
        for (int p = 0; p < now.size; p++) {
            if (now.doors.wayBetween(at(now.rooms, p), at(now.goals, p)) == FAR) {
                bits |= 1 << p;
            }
        }
        return bits;
    }

    public int stuck() {
        mind.become(now);
        int still = 0;
        for (int n = 1; n <= LOOK_MOST + STILL_HOURS; n++) {
            still = mind.goHours(1, false) == 0 ? still + 1 : 0;
            if (still == STILL_HOURS) {
                return n - STILL_HOURS;
            }
        }
        return NONE;
    }

    // ---- the way by doors ----

    public int way(int room, int other, int what) {
        if (!isRoom(room) || !isRoom(other)) {
            return refused(NOBODY);
        }
        if (!isHalf(what)) {
            return refused(OTHER);
        }
        if (what == 0) {
            return toldWay(now.doors.wayBetween(room, other));
        }
        int firsts = now.doors.firstDoors(room, other);
        for (int d = 0; d < now.doors.size; d++) {
            if (hasBit(firsts, d)) {
                return d;
            }
        }
        return NONE;
    }

    public int round(int room) {
        if (!isRoom(room)) {
            return refused(NOBODY);
        }
        int least = FAR;
        for (int d = 0; d < now.doors.size; d++) {
            if (at(now.doors.froms, d) == room) {
                least = Math.min(least, 1 + now.doors.wayBetween(at(now.doors.intos, d), room));
            }
        }
        return toldWay(least);
    }

    public int reach(int room) {
        if (!isRoom(room)) {
            return refused(NOBODY);
        }
        int bits = 0;
        for (int other = 0; other < ROOMS; other++) {
            if (now.doors.wayBetween(room, other) != FAR) {
                bits |= 1 << other;
            }
        }
        return bits;
    }

    public int open() {
        int bits = 0;
        for (int d = 0; d < now.doors.size; d++) {
            if (now.opens(d, now.hour + 1)) {
                bits |= 1 << d;
            }
        }
        return bits;
    }

    // ---- who helps, what to change ----

    public int helper(int n, int what) {
        if (n < 0 || n > TRY_MOST) {
            return refusedNumber(n);
        }
        if (!isHalf(what)) {
            return refused(OTHER);
        }
        int best = NONE;
        int most = -1;
        for (int room = 0; room < ROOMS; room++) {
            int home = homeWithHelper(room, n);
            if (home > most) {
                most = home;
                best = room;
            }
        }
        return what == 0 ? best : most;
    }

    private int homeWithHelper(int room, int n) {
        mind.become(now);
        mind.addPerson(room, room, DIGIT_MOST);
        mind.goHours(n, false);
        // The helper never leaves his goal, so he is the one to take off.
        return mind.homeCount() - 1;
    }

    public int fewest(int person, int n) {
        if (!now.has(person)) {
            return refused(NOBODY);
        }
        if (n < 0 || n > TRY_MOST) {
            return refusedNumber(n);
        }
        int best = NONE;
        for (int bits = 0; bits < 1 << now.size; bits++) {
            boolean fewer = best == NONE || Integer.bitCount(bits) < Integer.bitCount(best);
            if (fewer && !hasBit(bits, person) && isHomeWhileStay(person, bits, n)) {
                best = bits;
            }
        }
        return best;
    }

    private boolean isHomeWhileStay(int person, int bits, int n) {
        mind.become(now);
        for (int p = 0; p < mind.size; p++) {
            if (hasBit(bits, p)) {
                mind.stay(p);
            }
        }
        mind.goHours(n, false);
        return mind.isHome(person);
    }

    public int turn(int n) {
        if (n < 0 || n > TRY_MOST) {
            return refusedNumber(n);
        }
        return doorToChange(n, true);
    }

    public int wedge(int n) {
        if (n < 0 || n > TRY_MOST) {
            return refusedNumber(n);
        }
        return doorToChange(n, false);
    }

    /** The door which, turned or else wedged, brings more home than if nothing is changed. */
    private int doorToChange(int n, boolean isTurned) {
        mind.become(now);
        mind.goHours(n, false);
        int most = mind.homeCount();
        int best = NONE;
        for (int d = 0; d < now.doors.size; d++) {
            mind.become(now);
            if (isTurned) {
                mind.doors.changeSides(d);
            } else {
                put(mind.doors.wedged, d, 1);
            }
            mind.goHours(n, false);
            if (mind.homeCount() > most) {
                most = mind.homeCount();
                best = d;
            }
        }
        return best;
    }

    public int holds(int n, int what) {
        if (n < 0 || n > TRY_MOST) {
            return refusedNumber(n);
        }
        if (!isHalf(what)) {
            return refused(OTHER);
        }
        int best = NONE;
        int least = NONE;
        for (int p = 0; p < now.size; p++) {
            mind.become(now);
            mind.removePerson(p);
            mind.goHours(n, false);
            if (best == NONE || mind.homeCount() < least) {
                least = mind.homeCount();
                best = p;
            }
        }
        return what == 0 ? best : least;
    }

    // ---- where all are ----

    public int crowd(int what) {
        switch (what) {
            case 0:
                return crowdedRoom();
            case 1:
                return now.countIn(crowdedRoom());
            case 2:
                return emptyRooms();
            case 3:
                return deadRooms();
            default:
                return refused(OTHER);
        }
    }

    private int crowdedRoom() {
        int best = 0;
        for (int room = 1; room < ROOMS; room++) {
            if (now.countIn(room) > now.countIn(best)) {
                best = room;
            }
        }
        return best;
    }

    private int emptyRooms() {
        int bits = 0;
        for (int room = 0; room < ROOMS; room++) {
            if (now.countIn(room) == 0) {
                bits |= 1 << room;
            }
        }
        return bits;
    }

    private int deadRooms() {
        int bits = 0;
        for (int room = 0; room < ROOMS; room++) {
            if (bitsOf(now.doors.froms, now.doors.size, room) == 0) {
                bits |= 1 << room;
            }
        }
        return bits;
    }

    public int handles(int room) {
        if (!isRoom(room)) {
            return refused(NOBODY);
        }
        return bitsOf(now.doors.intos, now.doors.size, room);
    }

    public int meet(int what) {
        if (!isHalf(what)) {
            return refused(OTHER);
        }
        int best = NONE;
        int least = FAR;
        for (int room = 0; room < ROOMS; room++) {
            int together = waysOfAllTo(room);
            if (together < least) {
                least = together;
                best = room;
            }
        }
        return what == 0 ? best : toldWay(least);
    }

    private int waysOfAllTo(int room) {
        int together = 0;
        for (int p = 0; p < now.size; p++) {
            together += now.doors.wayBetween(at(now.rooms, p), room);
        }
        return Math.min(together, FAR);
    }

    // ---- two, fires, a mean ----

    public int two(int a, int b, int n) {
        if (!now.has(a) || !now.has(b) || a == b) {
            return refused(NOBODY);
        }
        if (n < 0 || n > TRY_MOST) {
            return refusedNumber(n);
        }
        for (int pair = 0; pair < 4; pair++) {
            tryPair(a, b, pair, n);
        }
        for (int pair = 0; pair < 4; pair++) {
            boolean firstKeeps = at(gains, pair) >= at(gains, pair ^ 2);
            boolean otherKeeps = at(gains, 4 + pair) >= at(gains, 4 + (pair ^ 1));
            if (firstKeeps && otherKeeps) {
                return 10 * (pair / 2) + pair % 2;
            }
        }
        return NONE;
    }

    /** A pair is 2 for the first who stays, and 1 for the other one who does. */
    private void tryPair(int a, int b, int pair, int n) {
        mind.become(now);
        if (hasBit(pair, 1)) {
            mind.stay(a);
        }
        if (hasBit(pair, 0)) {
            mind.stay(b);
        }
        mind.goHours(n, false);
        put(gains, pair, gainOf(a));
        put(gains, 4 + pair, gainOf(b));
    }

    private int gainOf(int person) {
        return at(mind.rooms, person) == at(now.goals, person) ? 3 : at(mind.moods, person) / 4;
    }

    public long fire(int person, int room, int n, int t, int part) {
        if (!now.has(person) || !isRoom(room)) {
            return refusedLong(NOBODY);
        }
        if (n < 0 || t < ODDS_LEAST) {
            return refusedLong(BELOW);
        }
        if (n > FIRE_HOURS_MOST || t > ODDS_MOST) {
            return refusedLong(NO_ROOM);
        }
        if (!isHalf(part)) {
            return refusedLong(OTHER);
        }
        long above = 0;
        for (int fires = 0; fires < 1 << n; fires++) {
            if (isInBehindFires(person, room, n, fires)) {
                above += power(t - 1, n - Integer.bitCount(fires));
            }
        }
        return partOf(above, power(t, n), part);
    }

    private boolean isInBehindFires(int person, int room, int n, int fires) {
        mind.become(now);
        for (int hour = 0; hour < n; hour++) {
            mind.goHours(1, hasBit(fires, hour));
        }
        return at(mind.rooms, person) == room;
    }

    public long mean(int part) {
        if (!isHalf(part)) {
            return refusedLong(OTHER);
        }
        return partOf(now.moodsTogether(), Math.max(1, now.size), part);
    }

    // ---- the row, and nights by lot ----

    public int whatIs(int person, int door, int what) {
        if (!now.has(person) || !now.doors.has(door)) {
            return refused(NOBODY);
        }
        if (!isHalf(what)) {
            return refused(OTHER);
        }
        return what == 0 ? kindsByRow(person, door) : goalsByRow(person);
    }

    private int kindsByRow(int person, int door) {
        int bits = 0;
        for (int kind = 0; kind < KINDS; kind++) {
            mind.become(now);
            put(mind.doors.kinds, door, kind);
            if (isMindAsRow(person)) {
                bits |= 1 << kind;
            }
        }
        return bits;
    }

    private int goalsByRow(int person) {
        int bits = 0;
        for (int goal = 0; goal < ROOMS; goal++) {
            mind.become(now);
            put(mind.goals, person, goal);
            if (isMindAsRow(person)) {
                bits |= 1 << goal;
            }
        }
        return bits;
    }

    private boolean isMindAsRow(int person) {
        for (int i = 0; i < told.size; i++) {
            if (at(mind.rooms, person) != at(told.numbers, i)) {
                return false;
            }
            mind.goHours(1, false);
        }
        return true;
    }

    public int row(int v) {
        if (v < 0) {
            return refused(BELOW);
        }
        if (v > ROW_NUMBER_MOST || told.isFull()) {
            return refused(NO_ROOM);
        }
        return told.add(v);
    }

    public int judge() {
        int size = told.empty();
        for (int i = 0; i < size; i++) {
            if (!now.has(i) || at(now.rooms, i) != at(told.numbers, i)) {
                return i;
            }
        }
        return NONE;
    }

    public int clear() {
        return told.empty();
    }

    public int lots(int n, int z, int what) {
        if (n < 1) {
            return refused(BELOW);
        }
        if (n > NIGHTS_MOST) {
            return refused(NO_ROOM);
        }
        if (!isHalf(what)) {
            return refused(OTHER);
        }
        int seed = z;
        int home = 0;
        int let = 0;
        for (int night = 0; night < n; night++) {
            mind.become(now);
            seed = placeByLot(seed);
            mind.goHours(NIGHT_HOURS, false);
            home += mind.homeCount();
            let += mind.let - now.let;
        }
        return what == 0 ? home : let;
    }

    /** Answers the seed behind the last draw. */
    private int placeByLot(int z) {
        int seed = z;
        for (int p = 0; p < mind.size; p++) {
            seed = nextSeed(seed);
            put(mind.rooms, p, draw(seed));
            seed = nextSeed(seed);
            put(mind.goals, p, draw(seed));
        }
        return seed;
    }

    private static int nextSeed(int z) {
        return z * 1664525 + 1013904223;
    }

    private static int draw(int seed) {
        return (seed & 0x7fffffff) / 256 % ROOMS;
    }

    // ---- the image, and counts ----

    public int image() {
        taken.become(now);
        imageTaken = true;
        return now.hour;
    }

    public int on() {
        if (!imageTaken) {
            return refused(STATE);
        }
        now.become(taken);
        return now.hour;
    }

    public int count(int what) {
        switch (what) {
            case 0:
                return now.doors.size;
            case 1:
                return now.size;
            case 2:
                return now.hour;
            case 3:
                return now.let;
            case 4:
                return now.homeBits();
            case 5:
                return now.moodsTogether();
            case 6:
                return told.size;
            case 7:
                return letters.signs.size;
            default:
                return what > 10 && what <= 10 + REFUSAL_KINDS ? at(refusals, what - 10) : NONE;
        }
    }

    // ---- refusals ----

    private int refused(int refusal) {
        put(refusals, -refusal, at(refusals, -refusal) + 1);
        return refusal;
    }

    /** Refuses a number of which 0 is the least. */
    private int refusedNumber(int v) {
        return refused(v < 0 ? BELOW : NO_ROOM);
    }

    private long refusedLong(int refusal) {
        return LONG_REFUSAL - refused(refusal);
    }

    // ---- numbers ----

    private static int at(int[] numbers, int place) {
        return place >= 0 && place < numbers.length ? numbers[place] : NONE;
    }

    private static void put(int[] numbers, int place, int v) {
        if (place >= 0 && place < numbers.length) {
            numbers[place] = v;
        }
    }

    /** Puts a number, and answers what was there. */
    private static int exchange(int[] numbers, int place, int v) {
        int was = at(numbers, place);
        put(numbers, place, v);
        return was;
    }

    /** The places (bits) below a size at which a number is. */
    private static int bitsOf(int[] numbers, int size, int v) {
        int bits = 0;
        for (int i = 0; i < size; i++) {
            if (at(numbers, i) == v) {
                bits |= 1 << i;
            }
        }
        return bits;
    }

    private static void copy(int[] from, int[] into) {
        System.arraycopy(from, 0, into, 0, Math.min(from.length, into.length));
    }

    private static boolean isRoom(int room) {
        return room >= 0 && room < ROOMS;
    }

    /** Whether a "what" or a "part" is one of two, 0 or 1. */
    private static boolean isHalf(int what) {
        return what == 0 || what == 1;
    }

    private static boolean hasBit(int bits, int place) {
        return (bits >> place & 1) == 1;
    }

    private static int toldWay(int way) {
        return way >= FAR ? NONE : way;
    }

    private static long power(int base, int exponent) {
        long product = 1;
        for (int i = 0; i < exponent; i++) {
            product *= base;
        }
        return product;
    }

    /** A part of a fraction in its lowest terms: 0 above, 1 below the line. */
    private static long partOf(long above, long below, int part) {
        long divisor = commonDivisor(above, below);
        if (divisor < 1) {
            return part;
        }
        return (part == 0 ? above : below) / divisor;
    }

    private static long commonDivisor(long a, long b) {
        long greater = a;
        long lesser = b;
        for (int i = 0; i < 200 && lesser != 0; i++) {
            long rest = greater % lesser;
            greater = lesser;
            lesser = rest;
        }
        return greater;
    }

    // ---- classes ----

    /** Numbers one behind the other, up to a greatest size. */
    private static final class Row {
        final int[] numbers;
        int size;

        Row(int most) {
            numbers = new int[Math.max(0, most)];
        }

        boolean isFull() {
            return size >= numbers.length;
        }

        int add(int v) {
            if (!isFull()) {
                put(numbers, size, v);
                size++;
            }
            return size;
        }

        /** Answers how many there were. */
        int empty() {
            int had = size;
            size = 0;
            return had;
        }
    }

    /** DOORS with what they are, and all WAYS by them. */
    private static final class Doors {
        final int[] kinds = new int[DOORS_MOST];
        final int[] figures = new int[DOORS_MOST];
        final int[] froms = new int[DOORS_MOST];
        final int[] intos = new int[DOORS_MOST];
        final int[] wedged = new int[DOORS_MOST];
        /** How many doors it is from one room (times ROOMS) to another one. */
        final int[] ways = new int[ROOMS * ROOMS];
        /** The doors (bits) that are first ones of such a way. */
        final int[] firsts = new int[ROOMS * ROOMS];
        int size;

        Doors() {
            measureWays();
        }

        void become(Doors other) {
            copy(other.kinds, kinds);
            copy(other.figures, figures);
            copy(other.froms, froms);
            copy(other.intos, intos);
            copy(other.wedged, wedged);
            copy(other.ways, ways);
            copy(other.firsts, firsts);
            size = other.size;
        }

        boolean has(int door) {
            return door >= 0 && door < size;
        }

        /** Answers whether it could come. */
        boolean addDoor(int kind, int figure, int from, int into) {
            if (size >= DOORS_MOST || !isRoom(from) || !isRoom(into) || from == into) {
                return false;
            }
            put(kinds, size, kind);
            put(figures, size, figure);
            put(froms, size, from);
            put(intos, size, into);
            put(wedged, size, 0);
            size++;
            measureWays();
            return true;
        }

        int wedgeOrNot(int door) {
            put(wedged, door, 1 - at(wedged, door));
            return at(wedged, door);
        }

        /** Answers the room into which it leads then. */
        int changeSides(int door) {
            int into = at(froms, door);
            put(froms, door, at(intos, door));
            put(intos, door, into);
            measureWays();
            return into;
        }

        int wayBetween(int room, int other) {
            return isRoom(room) && isRoom(other) ? at(ways, room * ROOMS + other) : FAR;
        }

        /** None where one is there already, or where there is no way. */
        int firstDoors(int room, int other) {
            return isRoom(room) && isRoom(other) ? at(firsts, room * ROOMS + other) : 0;
        }

        /** No shortest way has more doors than there are other rooms, so that many rounds are enough. */
        private void measureWays() {
            for (int i = 0; i < ROOMS * ROOMS; i++) {
                put(ways, i, i / ROOMS == i % ROOMS ? 0 : FAR);
            }
            boolean isShorter = true;
            for (int round = 1; round < ROOMS && isShorter; round++) {
                isShorter = false;
                for (int d = 0; d < size; d++) {
                    if (shortenWaysBy(at(froms, d), at(intos, d))) {
                        isShorter = true;
                    }
                }
            }
            findFirsts();
        }

        /** Answers whether a door made a way shorter. */
        private boolean shortenWaysBy(int from, int into) {
            boolean isShorter = false;
            for (int other = 0; other < ROOMS; other++) {
                int through = 1 + at(ways, into * ROOMS + other);
                if (through < at(ways, from * ROOMS + other)) {
                    put(ways, from * ROOMS + other, through);
                    isShorter = true;
                }
            }
            return isShorter;
        }

        private void findFirsts() {
            for (int i = 0; i < ROOMS * ROOMS; i++) {
                put(firsts, i, 0);
            }
            for (int i = 0; i < size * ROOMS; i++) {
                int door = i / ROOMS;
                int way = at(froms, door) * ROOMS + i % ROOMS;
                int rest = at(intos, door) * ROOMS + i % ROOMS;
                if (1 + at(ways, rest) == at(ways, way)) {
                    put(firsts, way, at(firsts, way) | 1 << door);
                }
            }
        }

        /** Whether a door that is not wedged opens, by who is in the room it leads into. */
        boolean opensBy(int door, int hour, int helpers, int bestMood) {
            int figure = at(figures, door);
            int beat = Math.max(1, figure / 3 + 2);
            boolean plain = helpers >= 1;
            boolean stiff = plain && hour % beat == 0;
            boolean cat = plain || hour % 2 == 1;
            switch (at(kinds, door)) {
                case PLAIN:
                    return plain;
                case STIFF:
                    return stiff;
                case KNOCKED:
                    return plain && bestMood >= figure;
                case CAT:
                    return cat;
                case OWN:
                    return cat || hour % 2 == 0;
                case BOLTED:
                    return stiff && helpers >= 2;
                default:
                    return false;
            }
        }
    }

    /** DOORS, PEOPLE, HOUR and LET. */
    private static final class Town {
        final Doors doors = new Doors();
        // One place more than people there are: that of the helper who is thought of.
        final int[] rooms = new int[PEOPLE_MOST + 1];
        final int[] goals = new int[PEOPLE_MOST + 1];
        final int[] moods = new int[PEOPLE_MOST + 1];
        int size;
        int hour;
        int let;

        void become(Town other) {
            doors.become(other.doors);
            copy(other.rooms, rooms);
            copy(other.goals, goals);
            copy(other.moods, moods);
            size = other.size;
            hour = other.hour;
            let = other.let;
        }

        boolean has(int person) {
            return person >= 0 && person < size;
        }

        boolean isHome(int person) {
            return at(rooms, person) == at(goals, person);
        }

        void addPerson(int room, int goal, int mood) {
            if (size <= PEOPLE_MOST) {
                put(rooms, size, room);
                put(goals, size, goal);
                put(moods, size, mood);
                size++;
            }
        }

        /** Those behind him come one place nearer, so that their order stays. */
        void removePerson(int person) {
            if (!has(person)) {
                return;
            }
            for (int p = person; p + 1 < size; p++) {
                put(rooms, p, at(rooms, p + 1));
                put(goals, p, at(goals, p + 1));
                put(moods, p, at(moods, p + 1));
            }
            size--;
        }

        void stay(int person) {
            put(goals, person, at(rooms, person));
        }

        /** Answers how often somebody came through a door; with fires all doors are as wedged. */
        int goHours(int n, boolean areFires) {
            int went = 0;
            for (int i = 0; i < n; i++) {
                hour++;
                for (int p = 0; p < size; p++) {
                    int door = doorFor(p, hour, areFires);
                    if (door >= 0) {
                        put(rooms, p, at(doors.intos, door));
                        let = Math.min(LET_MOST, let + 1);
                        went++;
                    } else if (!isHome(p)) {
                        put(moods, p, Math.max(0, at(moods, p) - 1));
                    }
                }
            }
            return went;
        }

        /** The door through which one goes; -9 if none opens, or if he is in his goal. */
        int doorFor(int person, int inHour, boolean isFire) {
            int firsts = doors.firstDoors(at(rooms, person), at(goals, person));
            for (int d = 0; d < doors.size && firsts >> d != 0; d++) {
                if (hasBit(firsts, d) && (isFire || opens(d, inHour))) {
                    return d;
                }
            }
            return NONE;
        }

        /** Who asks is never in the room a door leads into, so all who are there are others. */
        boolean opens(int door, int inHour) {
            if (at(doors.wedged, door) == 1) {
                return true;
            }
            int into = at(doors.intos, door);
            int helpers = 0;
            int bestMood = 0;
            for (int p = 0; p < size; p++) {
                if (at(rooms, p) == into) {
                    helpers++;
                    bestMood = Math.max(bestMood, at(moods, p));
                }
            }
            return doors.opensBy(door, inHour, helpers, bestMood);
        }

        int countIn(int room) {
            return Integer.bitCount(bitsOf(rooms, size, room));
        }

        int homeBits() {
            int bits = 0;
            for (int p = 0; p < size; p++) {
                if (isHome(p)) {
                    bits |= 1 << p;
                }
            }
            return bits;
        }

        int homeCount() {
            return Integer.bitCount(homeBits());
        }

        int moodsTogether() {
            int sum = 0;
            for (int p = 0; p < size; p++) {
                sum += at(moods, p);
            }
            return sum;
        }
    }

    /** The letters in which a TOWN is told, and how they are read. */
    private static final class Letters {
        final Row signs = new Row(LETTERS_MOST);

        /** How long a statement is that begins here, with its ";"; 0 if none can. */
        int lengthAt(int place) {
            switch (at(signs.numbers, place)) {
                case 'd':
                    return 6;
                case 'p':
                    return 5;
                case 'g':
                case 'r':
                case 'h':
                    return 4;
                case 'w':
                case 't':
                    return 3;
                default:
                    return 0;
            }
        }

        /** The place of the first letter with which no town can go on, the end if something lacks; -9. */
        int shapeFault() {
            int start = 0;
            for (int place = 0; place < signs.size; place++) {
                if (!fitsShape(start, place)) {
                    return place;
                }
                if (place - start + 1 == lengthAt(start)) {
                    start = place + 1;
                }
            }
            return signs.size == 0 || start < signs.size ? signs.size : NONE;
        }

        private boolean fitsShape(int start, int place) {
            int length = lengthAt(start);
            if (place == start) {
                return length > 0;
            }
            int sign = at(signs.numbers, place);
            if (place - start == length - 1) {
                return sign == ';';
            }
            if (place - start == 1 && at(signs.numbers, start) == 'd') {
                return kindOf(sign) != NONE;
            }
            return sign >= '0' && sign <= '9';
        }

        private static int kindOf(int sign) {
            switch (sign) {
                case 'p':
                    return PLAIN;
                case 's':
                    return STIFF;
                case 'k':
                    return KNOCKED;
                case 'c':
                    return CAT;
                case 'o':
                    return OWN;
                case 'b':
                    return BOLTED;
                default:
                    return NONE;
            }
        }

        private int digitAt(int place) {
            return at(signs.numbers, place) - '0';
        }

        /** Tells a town the statement that begins here; answers whether it is as it must be. */
        boolean tell(int place, Town town) {
            int first = digitAt(place + 1);
            int second = digitAt(place + 2);
            int third = digitAt(place + 3);
            switch (at(signs.numbers, place)) {
                case 'd':
                    return town.doors.addDoor(kindOf(at(signs.numbers, place + 1)), second, third, digitAt(place + 4));
                case 'p':
                    return tellPerson(town, first, second, third);
                case 'g':
                    return tellRoom(town, town.goals, first, second);
                case 'r':
                    return tellRoom(town, town.rooms, first, second);
                case 'w':
                case 't':
                    return tellDoor(town, first, at(signs.numbers, place) == 't');
                case 'h':
                    int n = 10 * first + second;
                    boolean fits = n >= 1 && n <= GO_MOST && town.hour + n <= HOUR_MOST;
                    town.goHours(fits ? n : 0, false);
                    return fits;
                default:
                    return false;
            }
        }

        private static boolean tellPerson(Town town, int room, int goal, int mood) {
            if (town.size >= PEOPLE_MOST || !isRoom(room) || !isRoom(goal)) {
                return false;
            }
            town.addPerson(room, goal, mood);
            return true;
        }

        private static boolean tellRoom(Town town, int[] rooms, int person, int room) {
            if (!town.has(person) || !isRoom(room)) {
                return false;
            }
            put(rooms, person, room);
            return true;
        }

        private static boolean tellDoor(Town town, int door, boolean isTurned) {
            if (!town.doors.has(door)) {
                return false;
            }
            if (isTurned) {
                town.doors.changeSides(door);
            } else {
                town.doors.wedgeOrNot(door);
            }
            return true;
        }
    }
}
