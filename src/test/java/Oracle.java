import java.math.BigInteger;
import java.util.ArrayDeque;
import java.util.ArrayList;
import java.util.Comparator;
import java.util.Deque;
import java.util.List;
import java.util.function.Consumer;
import java.util.function.IntUnaryOperator;
import java.util.regex.Matcher;
import java.util.regex.Pattern;
import java.util.stream.IntStream;

/** The document a second time, written without a look at speed or room, to compare answers with. */
public final class Oracle {
    private static final String KINDS = "pskcob";
    private static final String STATEMENT = "d[pskcob]\\d\\d\\d;|p\\d\\d\\d;|[grh]\\d\\d;|[wt]\\d;";

    private static class Plain {
        boolean opens(int figure, int hour, List<Integer> moods) {
            return !moods.isEmpty();
        }
    }

    private static class Stiff extends Plain {
        @Override boolean opens(int figure, int hour, List<Integer> moods) {
            return super.opens(figure, hour, moods) && hour % (2 + figure / 3) == 0;
        }
    }

    private static class Knocked extends Plain {
        @Override boolean opens(int figure, int hour, List<Integer> moods) {
            return moods.stream().anyMatch(m -> m >= figure);
        }
    }

    private static class Cat extends Plain {
        @Override boolean opens(int figure, int hour, List<Integer> moods) {
            return hour % 2 == 1 || super.opens(figure, hour, moods);
        }
    }

    private static final class Own extends Cat {
        @Override boolean opens(int figure, int hour, List<Integer> moods) {
            return hour % 2 == 0 || super.opens(figure, hour, moods);
        }
    }

    private static final class Bolted extends Stiff {
        @Override boolean opens(int figure, int hour, List<Integer> moods) {
            return moods.size() > 1 && super.opens(figure, hour, moods);
        }
    }

    private static Plain kind(int k) {
        switch (k) {
            case 0: return new Plain();
            case 1: return new Stiff();
            case 2: return new Knocked();
            case 3: return new Cat();
            case 4: return new Own();
            default: return new Bolted();
        }
    }

    private static final class Door {
        int kind, figure, from, into;
        boolean wedged;

        Door(int kind, int figure, int from, int into) {
            this.kind = kind;
            this.figure = figure;
            this.from = from;
            this.into = into;
        }

        void turn() {
            int was = from;
            from = into;
            into = was;
        }
    }

    private static final class Person {
        int room, goal, mood;

        Person(int room, int goal, int mood) {
            this.room = room;
            this.goal = goal;
            this.mood = mood;
        }

        boolean isHome() {
            return room == goal;
        }
    }

    private static final class World {
        final List<Door> doors = new ArrayList<>();
        final List<Person> people = new ArrayList<>();
        int hour, let;
        boolean someoneWent;

        World copy() {
            World w = new World();
            for (Door d : doors) {
                Door e = new Door(d.kind, d.figure, d.from, d.into);
                e.wedged = d.wedged;
                w.doors.add(e);
            }
            people.forEach(p -> w.people.add(new Person(p.room, p.goal, p.mood)));
            w.hour = hour;
            w.let = let;
            return w;
        }

        World then(int n) {
            World w = copy();
            w.go(n);
            return w;
        }

        void go(int n) {
            for (int i = 0; i < n; i++) {
                hour(false);
            }
        }

        void hour(boolean fire) {
            hour++;
            someoneWent = false;
            for (Person p : people) {
                if (p.isHome()) {
                    continue;
                }
                int d = next(p, hour, fire);
                if (d < 0) {
                    p.mood = p.mood == 0 ? 0 : p.mood - 1;
                } else {
                    p.room = doors.get(d).into;
                    let = let == 9999 ? let : let + 1;
                    someoneWent = true;
                }
            }
        }

        int next(Person p, int inHour, boolean fire) {
            for (int d : firsts(p.room, p.goal)) {
                if (fire || opens(doors.get(d), inHour)) {
                    return d;
                }
            }
            return -9;
        }

        boolean opens(Door d, int inHour) {
            List<Integer> moods = new ArrayList<>();
            people.stream().filter(p -> p.room == d.into).forEach(p -> moods.add(p.mood));
            return d.wedged || kind(d.kind).opens(d.figure, inHour, moods);
        }

        List<Integer> firsts(int room, int goal) {
            List<Integer> found = new ArrayList<>();
            int way = way(room, goal);
            for (int d = 0; d < doors.size(); d++) {
                Door door = doors.get(d);
                if (way > 0 && door.from == room && way(door.into, goal) == way - 1) {
                    found.add(d);
                }
            }
            return found;
        }

        int way(int room, int goal) {
            int[] far = new int[8];
            java.util.Arrays.fill(far, -9);
            far[room] = 0;
            Deque<Integer> open = new ArrayDeque<>(List.of(room));
            while (!open.isEmpty()) {
                int at = open.remove();
                for (Door d : doors) {
                    if (d.from == at && far[d.into] < 0) {
                        far[d.into] = far[at] + 1;
                        open.add(d.into);
                    }
                }
            }
            return far[goal];
        }

        int home() {
            return (int) people.stream().filter(Person::isHome).count();
        }
    }

    private World now = new World();
    private World taken;
    private final StringBuilder letters = new StringBuilder();
    private final List<Integer> row = new ArrayList<>();
    private final int[] refusals = new int[7];

    private int no(int refusal) {
        refusals[-refusal]++;
        return refusal;
    }

    private long noLong(int refusal) {
        return 4000000000000000000L + -no(refusal);
    }

    private boolean noPerson(int p) {
        return p < 0 || p >= now.people.size();
    }

    private boolean noDoor(int d) {
        return d < 0 || d >= now.doors.size();
    }

    private static boolean noRoom(int r) {
        return r < 0 || r > 7;
    }

    private static int bits(int size, IntUnaryOperator isSo) {
        return IntStream.range(0, size).filter(i -> isSo.applyAsInt(i) != 0).map(i -> 1 << i).sum();
    }

    public int letter(int c) {
        if (c < 0) return no(-4);
        if (c > 255 || letters.length() == 96) return no(-6);
        letters.append((char) c);
        return letters.length();
    }

    public int town() {
        String text = letters.toString();
        letters.setLength(0);
        Pattern towns = Pattern.compile("(" + STATEMENT + ")+");
        for (int i = 1; i <= text.length(); i++) {
            Matcher m = towns.matcher(text.substring(0, i));
            if (!m.matches() && !m.hitEnd()) return -1000 - (i - 1);
        }
        if (!towns.matcher(text).matches()) return -1000 - text.length();
        World w = now.copy();
        Matcher m = Pattern.compile(STATEMENT).matcher(text);
        int statements = 0;
        while (m.find()) {
            if (!tell(w, m.group())) return -2000 - m.start();
            statements++;
        }
        now = w;
        return statements;
    }

    private static boolean tell(World w, String s) {
        int[] v = s.chars().map(c -> c - '0').toArray();
        switch (s.charAt(0)) {
            case 'd':
                if (v[3] > 7 || v[4] > 7 || v[3] == v[4] || w.doors.size() == 9) return false;
                return w.doors.add(new Door(KINDS.indexOf(s.charAt(1)), v[2], v[3], v[4]));
            case 'p':
                if (v[1] > 7 || v[2] > 7 || w.people.size() == 6) return false;
                return w.people.add(new Person(v[1], v[2], v[3]));
            case 'g':
            case 'r':
                if (v[1] >= w.people.size() || v[2] > 7) return false;
                if (s.charAt(0) == 'g') w.people.get(v[1]).goal = v[2];
                else w.people.get(v[1]).room = v[2];
                return true;
            case 'w':
            case 't':
                if (v[1] >= w.doors.size()) return false;
                if (s.charAt(0) == 'w') w.doors.get(v[1]).wedged ^= true;
                else w.doors.get(v[1]).turn();
                return true;
            default:
                int n = Integer.parseInt(s.substring(1, 3));
                if (n == 0 || n > 60 || w.hour + n > 999) return false;
                w.go(n);
                return true;
        }
    }

    public int door(int door, int what) {
        if (noDoor(door)) return no(-1);
        if (what < 0 || what > 4) return no(-2);
        Door d = now.doors.get(door);
        return new int[] {d.kind, d.figure, d.from, d.into, d.wedged ? 1 : 0}[what];
    }

    public int person(int person, int what) {
        if (noPerson(person)) return no(-1);
        if (what < 0 || what > 3) return no(-2);
        Person p = now.people.get(person);
        return new int[] {p.room, p.goal, p.mood, now.next(p, now.hour + 1, false)}[what];
    }

    public int wedges(int door) {
        if (noDoor(door)) return no(-1);
        return (now.doors.get(door).wedged ^= true) ? 1 : 0;
    }

    public int turns(int door) {
        if (noDoor(door)) return no(-1);
        now.doors.get(door).turn();
        return now.doors.get(door).into;
    }

    public int stands(int person, int room) {
        if (noPerson(person) || noRoom(room)) return no(-1);
        int was = now.people.get(person).room;
        now.people.get(person).room = room;
        return was;
    }

    public int wants(int person, int room) {
        if (noPerson(person) || noRoom(room)) return no(-1);
        int was = now.people.get(person).goal;
        now.people.get(person).goal = room;
        return was;
    }

    public int moods(int person, int v) {
        if (noPerson(person)) return no(-1);
        if (v < 0) return no(-4);
        if (v > 9) return no(-6);
        int was = now.people.get(person).mood;
        now.people.get(person).mood = v;
        return was;
    }

    public int changes(int door, int kind, int figure) {
        if (noDoor(door)) return no(-1);
        if (kind < 0 || kind > 5) return no(-2);
        if (figure < 0) return no(-4);
        if (figure > 9) return no(-6);
        Door d = now.doors.get(door);
        int was = d.kind * 10 + d.figure;
        d.kind = kind;
        d.figure = figure;
        return was;
    }

    public int hours(int n) {
        if (n < 1) return no(-4);
        if (n > 60 || now.hour + n > 999) return no(-6);
        now.go(n);
        return now.home();
    }

    public int personThen(int person, int n, int what) {
        if (noPerson(person)) return no(-1);
        if (n < 0) return no(-4);
        if (n > 60) return no(-6);
        if (what < 0 || what > 1) return no(-2);
        Person p = now.then(n).people.get(person);
        return what == 0 ? p.room : p.mood;
    }

    public int letThen(int n) {
        if (n < 0) return no(-4);
        if (n > 60) return no(-6);
        return now.then(n).let;
    }

    public int comes(int person, int room) {
        if (noPerson(person) || noRoom(room)) return no(-1);
        return IntStream.rangeClosed(0, 60).filter(n -> now.then(n).people.get(person).room == room).findFirst().orElse(-9);
    }

    public int home(int person) {
        if (person == -1) {
            return IntStream.rangeClosed(0, 60).filter(n -> now.then(n).people.stream().allMatch(Person::isHome))
                .findFirst().orElse(-9);
        }
        if (noPerson(person)) return no(-1);
        return IntStream.rangeClosed(0, 60).filter(n -> now.then(n).people.get(person).isHome()).findFirst().orElse(-9);
    }

    public int shutIn() {
        return bits(now.people.size(), p -> now.way(now.people.get(p).room, now.people.get(p).goal) < 0 ? 1 : 0);
    }

    public int stuck() {
        for (int n = 0; n <= 60; n++) {
            World w = now.then(n);
            boolean went = false;
            for (int i = 0; i < 12; i++) {
                w.hour(false);
                went |= w.someoneWent;
            }
            if (!went) return n;
        }
        return -9;
    }

    public int way(int room, int other, int what) {
        if (noRoom(room) || noRoom(other)) return no(-1);
        if (what < 0 || what > 1) return no(-2);
        return what == 0 ? now.way(room, other) : now.firsts(room, other).stream().findFirst().orElse(-9);
    }

    public int round(int room) {
        if (noRoom(room)) return no(-1);
        return now.doors.stream().filter(d -> d.from == room && now.way(d.into, room) >= 0)
            .mapToInt(d -> now.way(d.into, room) + 1).min().orElse(-9);
    }

    public int reach(int room) {
        if (noRoom(room)) return no(-1);
        return bits(8, r -> now.way(room, r) >= 0 ? 1 : 0);
    }

    public int open() {
        return bits(now.doors.size(), d -> now.opens(now.doors.get(d), now.hour + 1) ? 1 : 0);
    }

    public int helper(int n, int what) {
        if (n < 0) return no(-4);
        if (n > 30) return no(-6);
        if (what < 0 || what > 1) return no(-2);
        IntUnaryOperator home = r -> {
            World w = now.copy();
            w.people.add(new Person(r, r, 9));
            w.go(n);
            w.people.remove(w.people.size() - 1);
            return w.home();
        };
        int most = IntStream.range(0, 8).map(home).max().orElse(0);
        return what == 1 ? most : IntStream.range(0, 8).filter(r -> home.applyAsInt(r) == most).findFirst().orElse(-9);
    }

    public int fewest(int person, int n) {
        if (noPerson(person)) return no(-1);
        if (n < 0) return no(-4);
        if (n > 30) return no(-6);
        return IntStream.range(0, 1 << now.people.size()).filter(b -> (b & 1 << person) == 0).boxed()
            .sorted(Comparator.<Integer>comparingInt(Integer::bitCount).thenComparing(b -> b))
            .filter(b -> {
                World w = now.copy();
                for (int p = 0; p < w.people.size(); p++) {
                    if ((b & 1 << p) != 0) w.people.get(p).goal = w.people.get(p).room;
                }
                w.go(n);
                return w.people.get(person).isHome();
            }).findFirst().orElse(-9);
    }

    private int best(int n, Consumer<Door> change) {
        int[] home = new int[now.doors.size()];
        int most = now.then(n).home();
        int plain = most;
        for (int d = 0; d < home.length; d++) {
            World w = now.copy();
            change.accept(w.doors.get(d));
            w.go(n);
            home[d] = w.home();
            most = Math.max(most, home[d]);
        }
        for (int d = 0; d < home.length; d++) {
            if (home[d] == most && most > plain) return d;
        }
        return -9;
    }

    public int turn(int n) {
        if (n < 0) return no(-4);
        if (n > 30) return no(-6);
        return best(n, Door::turn);
    }

    public int wedge(int n) {
        if (n < 0) return no(-4);
        if (n > 30) return no(-6);
        return best(n, d -> d.wedged = true);
    }

    public int holds(int n, int what) {
        if (n < 0) return no(-4);
        if (n > 30) return no(-6);
        if (what < 0 || what > 1) return no(-2);
        IntUnaryOperator home = p -> {
            World w = now.copy();
            w.people.remove(p);
            w.go(n);
            return w.home();
        };
        int size = now.people.size();
        int least = IntStream.range(0, size).map(home).min().orElse(-9);
        return what == 1 ? least : IntStream.range(0, size).filter(p -> home.applyAsInt(p) == least).findFirst().orElse(-9);
    }

    public int crowd(int what) {
        int[] in = new int[8];
        now.people.forEach(p -> in[p.room]++);
        int most = IntStream.of(in).max().orElse(0);
        switch (what) {
            case 0: return IntStream.range(0, 8).filter(r -> in[r] == most).findFirst().orElse(-9);
            case 1: return most;
            case 2: return bits(8, r -> in[r] == 0 ? 1 : 0);
            case 3: return bits(8, r -> now.doors.stream().noneMatch(d -> d.from == r) ? 1 : 0);
            default: return no(-2);
        }
    }

    public int handles(int room) {
        if (noRoom(room)) return no(-1);
        return bits(now.doors.size(), d -> now.doors.get(d).into == room ? 1 : 0);
    }

    public int meet(int what) {
        if (what < 0 || what > 1) return no(-2);
        int best = -9;
        int least = Integer.MAX_VALUE;
        for (int r = 0; r < 8; r++) {
            int room = r;
            if (now.people.stream().anyMatch(p -> now.way(p.room, room) < 0)) continue;
            int sum = now.people.stream().mapToInt(p -> now.way(p.room, room)).sum();
            if (sum < least) {
                least = sum;
                best = r;
            }
        }
        return what == 0 || best < 0 ? best : least;
    }

    private int[] gains(int a, int b, int n, boolean aStays, boolean bStays) {
        World w = now.copy();
        if (aStays) w.people.get(a).goal = w.people.get(a).room;
        if (bStays) w.people.get(b).goal = w.people.get(b).room;
        w.go(n);
        return IntStream.of(a, b).map(p -> w.people.get(p).room == now.people.get(p).goal ? 3 : w.people.get(p).mood / 4)
            .toArray();
    }

    public int two(int a, int b, int n) {
        if (noPerson(a) || noPerson(b) || a == b) return no(-1);
        if (n < 0) return no(-4);
        if (n > 30) return no(-6);
        for (int i = 0; i < 2; i++) {
            for (int j = 0; j < 2; j++) {
                int[] has = gains(a, b, n, i == 1, j == 1);
                if (gains(a, b, n, i == 0, j == 1)[0] <= has[0] && gains(a, b, n, i == 1, j == 0)[1] <= has[1]) {
                    return 10 * i + j;
                }
            }
        }
        return -9;
    }

    private static BigInteger ways(World w, int person, int room, int n, int t) {
        if (n == 0) return w.people.get(person).room == room ? BigInteger.ONE : BigInteger.ZERO;
        World burnt = w.copy();
        burnt.hour(true);
        World still = w.copy();
        still.hour(false);
        return ways(burnt, person, room, n - 1, t).add(ways(still, person, room, n - 1, t).multiply(BigInteger.valueOf(t - 1)));
    }

    private static long part(BigInteger above, BigInteger below, int part) {
        BigInteger g = above.gcd(below);
        return (part == 0 ? above : below).divide(g).longValueExact();
    }

    public long fire(int person, int room, int n, int t, int part) {
        if (noPerson(person) || noRoom(room)) return noLong(-1);
        if (n < 0 || t < 2) return noLong(-4);
        if (n > 7 || t > 20) return noLong(-6);
        if (part < 0 || part > 1) return noLong(-2);
        return part(ways(now, person, room, n, t), BigInteger.valueOf(t).pow(n), part);
    }

    public long mean(int part) {
        if (part < 0 || part > 1) return noLong(-2);
        if (now.people.isEmpty()) return part;
        return part(BigInteger.valueOf(count(5)), BigInteger.valueOf(now.people.size()), part);
    }

    private boolean isAsRow(World w, int person) {
        return IntStream.range(0, row.size()).allMatch(n -> w.then(n).people.get(person).room == row.get(n));
    }

    public int whatIs(int person, int door, int what) {
        if (noPerson(person) || noDoor(door)) return no(-1);
        if (what < 0 || what > 1) return no(-2);
        return bits(what == 0 ? 6 : 8, i -> {
            World w = now.copy();
            if (what == 0) w.doors.get(door).kind = i;
            else w.people.get(person).goal = i;
            return isAsRow(w, person) ? 1 : 0;
        });
    }

    public int row(int v) {
        if (v < 0) return no(-4);
        if (v > 99 || row.size() == 16) return no(-6);
        row.add(v);
        return row.size();
    }

    public int judge() {
        int first = IntStream.range(0, row.size()).filter(i -> noPerson(i) || now.people.get(i).room != row.get(i))
            .findFirst().orElse(-9);
        row.clear();
        return first;
    }

    public int clear() {
        int had = row.size();
        row.clear();
        return had;
    }

    public int lots(int n, int z, int what) {
        if (n < 1) return no(-4);
        if (n > 20) return no(-6);
        if (what < 0 || what > 1) return no(-2);
        int[] seed = {z};
        IntUnaryOperator draw = m -> {
            seed[0] = BigInteger.valueOf(seed[0]).multiply(BigInteger.valueOf(1664525))
                .add(BigInteger.valueOf(1013904223)).intValue();
            return (seed[0] << 1 >>> 1 >>> 8) % m;
        };
        int home = 0;
        int let = 0;
        for (int i = 0; i < n; i++) {
            World w = now.copy();
            for (Person p : w.people) {
                p.room = draw.applyAsInt(8);
                p.goal = draw.applyAsInt(8);
            }
            w.go(8);
            home += w.home();
            let += w.let - now.let;
        }
        return what == 0 ? home : let;
    }

    public int image() {
        taken = now.copy();
        return now.hour;
    }

    public int on() {
        if (taken == null) return no(-3);
        now = taken.copy();
        return now.hour;
    }

    public int count(int what) {
        if (what > 10 && what < 17) return refusals[what - 10];
        switch (what) {
            case 0: return now.doors.size();
            case 1: return now.people.size();
            case 2: return now.hour;
            case 3: return now.let;
            case 4: return bits(now.people.size(), p -> now.people.get(p).isHome() ? 1 : 0);
            case 5: return now.people.stream().mapToInt(p -> p.mood).sum();
            case 6: return row.size();
            case 7: return letters.length();
            default: return -9;
        }
    }
}
