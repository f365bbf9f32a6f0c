import java.io.IOException;
import java.lang.management.ManagementFactory;
import java.lang.reflect.Field;
import java.lang.reflect.Member;
import java.lang.reflect.Method;
import java.lang.reflect.Modifier;
import java.nio.charset.StandardCharsets;
import java.nio.file.Files;
import java.nio.file.Path;
import java.util.Set;
import java.util.TreeSet;
import java.util.regex.Matcher;
import java.util.regex.Pattern;

/** The class itself: its face, the Java it keeps to (LANGUAGE.md), and that no call makes an object. */
public final class LanguageTest {
    private static final Due DUE = new Due("LanguageTest");
    private static final Path SOURCE = Path.of("src/main/java/DoorsOneSide.java");
    private static final String FACE = "letter(int) town() door(int,int) person(int,int) wedges(int) turns(int) "
        + "stands(int,int) wants(int,int) moods(int,int) changes(int,int,int) hours(int) personThen(int,int,int) "
        + "letThen(int) comes(int,int) home(int) shutIn() stuck() way(int,int,int) round(int) reach(int) open() "
        + "helper(int,int) fewest(int,int) turn(int) wedge(int) holds(int,int) crowd(int) handles(int) meet(int) "
        + "two(int,int,int) fire(int,int,int,int,int):long mean(int):long whatIs(int,int,int) row(int) judge() "
        + "clear() lots(int,int,int) image() on() count(int)";

    public static void main(String[] args) throws IOException {
        face();
        namesInside();
        words();
        callsMakeNothing();
        anyNumbers();
        DUE.end();
    }

    private static void face() {
        Set<String> due = new TreeSet<>(Set.of(FACE.split(" ")));
        Set<String> found = new TreeSet<>();
        int visible = 0;
        for (Method m : DoorsOneSide.class.getDeclaredMethods()) {
            if (Modifier.isPublic(m.getModifiers())) {
                found.add(told(m));
            } else if (!Modifier.isPrivate(m.getModifiers())) {
                visible++;
            }
        }
        for (Field f : DoorsOneSide.class.getDeclaredFields()) {
            visible += Modifier.isPrivate(f.getModifiers()) ? 0 : 1;
        }
        DUE.is("the methods are " + found, 1, found.equals(due) ? 1 : 0);
        DUE.is("other members that are not private", 0, visible);
        DUE.is("constructors", 1, DoorsOneSide.class.getDeclaredConstructors().length);
        DUE.is("public constructors", 1, DoorsOneSide.class.getConstructors().length);
        DUE.is("the class is final", 1, Modifier.isFinal(DoorsOneSide.class.getModifiers()) ? 1 : 0);
    }

    private static String told(Method m) {
        StringBuilder text = new StringBuilder(m.getName()).append('(');
        for (int i = 0; i < m.getParameterCount(); i++) {
            text.append(i == 0 ? "" : ",").append(m.getParameterTypes()[i].getName());
        }
        return text.append(')').append(m.getReturnType() == int.class ? "" : ":" + m.getReturnType().getName()).toString();
    }

    private static void namesInside() {
        Set<String> names = new TreeSet<>();
        for (Member m : DoorsOneSide.class.getMethods()) {
            names.add(m.getName());
        }
        for (Method m : DoorsOneSide.class.getDeclaredMethods()) {
            boolean isAgain = !Modifier.isPublic(m.getModifiers()) && names.contains(m.getName());
            DUE.is(m.getName() + " is a public name again", 0, isAgain ? 1 : 0);
            DUE.is(m.getName() + " takes more than seven", 0, m.getParameterCount() > 7 ? 1 : 0);
        }
        for (Class<?> inside : DoorsOneSide.class.getDeclaredClasses()) {
            DUE.is(inside + " is static", 1, Modifier.isStatic(inside.getModifiers()) ? 1 : 0);
            DUE.is(inside + " has too many fields", 0, inside.getDeclaredFields().length > 20 ? 1 : 0);
            for (Method m : inside.getDeclaredMethods()) {
                DUE.is(m.getName() + " is a public name again", 0, names.contains(m.getName()) ? 1 : 0);
            }
        }
    }

    private static void words() throws IOException {
        String source = Files.readString(SOURCE, StandardCharsets.UTF_8);
        for (int i = 0; i < source.length(); i++) {
            if (source.charAt(i) > 126) {
                DUE.is("sign " + (int) source.charAt(i) + " at " + i, 0, 1);
            }
        }
        String code = source.replaceAll("(?s)/\\*.*?\\*/", " ").replaceAll("//[^\n]*", " ");
        String[] words = {"\\bthrow\\b", "\\btry\\b", "\\bcatch\\b", "\\bsynchronized\\b", "\\bassert\\b", "->", "::",
            "\\bimport\\b", "\\bpackage\\b", "Exact\\b", "\\bstatic\\s*\\{", "\\bequals\\b", "\\bhashCode\\b",
            "\\btoString\\b", "\\bnull\\b", "\\bInteger\\.[A-Z]", "\\bprotected\\b", "\\bvar\\b"};
        for (String word : words) {
            DUE.is("the code has " + word, 0, times(code, word));
        }
        String library = code.replaceAll("Math\\.(max|min)|Integer\\.bitCount|System\\.arraycopy", " ");
        DUE.is("other calls of the library", 0, times(library, "\\b(Math|Integer|Long|System|Arrays|String|Object)\\b"));
        // Rows are read and written in at() and put() alone, where the place is looked at.
        DUE.is("places in rows", 2, times(code.replaceAll("new int\\[", "new int("), "\\w\\[[^\\]]"));
    }

    private static int times(String code, String word) {
        Matcher m = Pattern.compile(word).matcher(code);
        int times = 0;
        while (m.find()) {
            times++;
        }
        return times;
    }

    private static void callsMakeNothing() {
        com.sun.management.ThreadMXBean threads = (com.sun.management.ThreadMXBean) ManagementFactory.getThreadMXBean();
        DoorsOneSide x = Due.of("dp001;do012;ds023;dk534;dc345;db050;p025;p137;p204;p350;p419;p009;");
        int[] numbers = {0, 1, 2, 5};
        everyCall(x, numbers);
        threads.getCurrentThreadAllocatedBytes();
        long before = threads.getCurrentThreadAllocatedBytes();
        everyCall(x, numbers);
        long after = threads.getCurrentThreadAllocatedBytes();
        DUE.is("bytes made by calls", 0, after - before);
    }

    /** No call may ever throw, for any numbers. */
    private static void anyNumbers() {
        int[] numbers = {Integer.MIN_VALUE, -1000, -1, 0, 3, 8, 9, 31, 61, 100, 1000, Integer.MAX_VALUE};
        DoorsOneSide x = new DoorsOneSide();
        everyCall(x, numbers);
        Due.tell(x, "dp001;do012;ds023;dk534;dc345;db050;p025;p137;p204;p350;p419;p009;");
        everyCall(x, numbers);
        DUE.is("no call threw", 1, 1);
    }

    private static void everyCall(DoorsOneSide x, int[] numbers) {
        for (int a : numbers) {
            callsOfOne(x, a);
            for (int b : numbers) {
                callsOfTwo(x, a, b);
                for (int c : numbers) {
                    x.changes(a, b, c);
                    x.personThen(a, b, c);
                    x.way(a, b, c);
                    x.two(a, b, c);
                    x.whatIs(a, b, c);
                    x.lots(a, b, c);
                    x.fire(a, b, c, 2, 0);
                    x.fire(0, 0, a, b, c);
                }
            }
        }
    }

    private static void callsOfOne(DoorsOneSide x, int a) {
        x.wedges(a);
        x.turns(a);
        x.image();
        x.hours(a);
        x.on();
        x.letThen(a);
        x.home(a);
        x.shutIn();
        x.stuck();
        x.round(a);
        x.reach(a);
        x.open();
        x.turn(a);
        x.wedge(a);
        x.crowd(a);
        x.handles(a);
        x.meet(a);
        x.mean(a);
        x.row(a);
        x.judge();
        x.clear();
        x.count(a);
        x.letter(a);
        x.town();
        x.letter('h');
        x.letter('0');
        x.letter('1');
        x.letter(';');
        x.town();
    }

    private static void callsOfTwo(DoorsOneSide x, int a, int b) {
        x.door(a, b);
        x.person(a, b);
        x.stands(a, b);
        x.wants(a, b);
        x.moods(a, b);
        x.comes(a, b);
        x.helper(a, b);
        x.fewest(a, b);
        x.holds(a, b);
    }
}
