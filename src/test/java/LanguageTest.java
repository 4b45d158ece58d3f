import java.io.IOException;
import java.lang.management.ManagementFactory;
import java.lang.reflect.Field;
import java.lang.reflect.Method;
import java.lang.reflect.Modifier;
import java.nio.file.Files;
import java.nio.file.Path;
import java.util.Arrays;
import java.util.Set;
import java.util.TreeSet;
import java.util.regex.Matcher;
import java.util.regex.Pattern;

/** Those rules of LANGUAGE.md that can be seen from the class and its text, and that calls make no objects. */
public final class LanguageTest {
    private static final String FACE = "close/2 count/1 day/3 dayOf/2 days/1 defect/6 doubles/4 due/1 eyes/2 first/3 "
            + "force/1 gang/2 gangOf/1 growth/2 heat/1 job/3 join/1 joined/1 lift/1 line/3 look/3 lost/0 lot/2 "
            + "overdue/0 plan/1 rail/3 risk/1 rule/5 safe/3 set/2 slow/2 span/2 sure/0 train/2 walked/2 walks/2 worst/0";

    public static void main(String[] args) throws IOException {
        face();
        classesInside();
        String source = Files.readString(Path.of("src/main/java/LineWalkers.java"));
        text(source);
        shortMethods(source);
        callsMakeNothing();
        Check.end("LanguageTest");
    }

    private static void face() {
        Class<?> c = LineWalkers.class;
        Check.that("public and final", Modifier.isPublic(c.getModifiers()) && Modifier.isFinal(c.getModifiers()));
        Set<String> face = new TreeSet<>();
        Set<String> names = new TreeSet<>();
        for (Method m : c.getDeclaredMethods()) {
            if (!Modifier.isPrivate(m.getModifiers())) {
                face.add(m.getName() + "/" + m.getParameterCount());
                names.add(m.getName());
                Check.that(m + " answers an int", m.getReturnType() == int.class);
            }
        }
        Check.that("the face is " + face, face.equals(new TreeSet<>(Arrays.asList(FACE.split(" ")))));
        Check.due("constructors", c.getDeclaredConstructors().length, 1);
        checkMembers(c, names);
        for (Class<?> inside : c.getDeclaredClasses()) {
            checkMembers(inside, names);
        }
    }

    private static void checkMembers(Class<?> c, Set<String> face) {
        int fields = 0;
        for (Field f : c.getDeclaredFields()) {
            boolean isStatic = Modifier.isStatic(f.getModifiers());
            fields += isStatic ? 0 : 1;
            Check.that(f + " is final", !isStatic || Modifier.isFinal(f.getModifiers()));
            Check.that(f + " is hidden", c != LineWalkers.class || Modifier.isPrivate(f.getModifiers()));
            Check.that(f + " is of a type that the rules leave", isAllowed(f.getType(), isStatic));
        }
        Check.that(c + " has some twenty fields", fields <= 20);
        for (Method m : c.getDeclaredMethods()) {
            boolean ofFace = c == LineWalkers.class && !Modifier.isPrivate(m.getModifiers());
            Check.that(m + " has a name of its own", ofFace || !face.contains(m.getName()));
            Check.that(m + " takes at most seven", m.getParameterCount() <= 7);
        }
    }

    /** Static ones are constants of few types (rule 5); others may also be of a class inside, or rows (rule 3). */
    private static boolean isAllowed(Class<?> type, boolean isStatic) {
        if (isStatic) {
            return Set.of(int.class, long.class, boolean.class, char.class, String.class, int[].class, long[].class)
                    .contains(type);
        }
        boolean isInside = type.getDeclaringClass() == LineWalkers.class;
        return isInside || Set.of(int.class, int[].class, long[].class, boolean[].class).contains(type);
    }

    private static void classesInside() {
        Class<?>[] inside = LineWalkers.class.getDeclaredClasses();
        Check.that("some twelve classes", inside.length + 1 <= 12);
        for (Class<?> c : inside) {
            Check.that(c + " is static and hidden",
                    Modifier.isStatic(c.getModifiers()) && Modifier.isPrivate(c.getModifiers()));
        }
    }

    /** All calls of a run live in one room: what they need is made with the object. */
    private static void callsMakeNothing() {
        com.sun.management.ThreadMXBean threads =
                (com.sun.management.ThreadMXBean) ManagementFactory.getThreadMXBean();
        LineWalkers x = new LineWalkers();
        for (int i = 0; i < 8; i++) {
            x.defect(0, 100 + i, 0, 0, 1, 1);
            x.line(0, 105 + i, 0);
            x.job(1 + i, 9 * i, i);
            x.rule(0, i, 0, 0, 1);
            x.train(150 * i, 2);
        }
        askAll(x);
        long before = threads.getCurrentThreadAllocatedBytes();
        for (int i = 0; i < 1000; i++) {
            askAll(x);
        }
        long bytes = threads.getCurrentThreadAllocatedBytes() - before;
        Check.that("a thousand rounds of calls made " + bytes + " bytes", bytes < 16000);
    }

    private static void askAll(LineWalkers x) {
        x.join(0);
        x.joined(7);
        x.plan(0);
        x.gangOf(7);
        x.first(0, 10, 0);
        x.walks(3, 1);
        x.overdue();
        x.due(3);
        x.look(0, 1, 1);
        x.days(1);
        x.worst();
        x.sure();
        x.count(2);
    }

    /** Rule 11: a method begins with a line that ends in "{" and ends with a brace that stands as far in. */
    private static void shortMethods(String source) {
        Matcher method = Pattern.compile("(?ms)^( {4}| {8})(?:public|private|static|final|int|long|boolean|void|[A-Z])"
                + "[^\n;=]*\\([^\n;=]*\\) \\{\n(.*?)^\\1\\}").matcher(source);
        int methods = 0;
        while (method.find()) {
            methods++;
            long lines = method.group(2).lines().count();
            Check.that(lines + " lines: " + method.group().lines().findFirst().orElse(""), lines <= 60);
        }
        Check.that("methods found: " + methods, methods > 100);
        Check.that("no loop without an end", !Pattern.compile("while \\(true\\)|for \\(;;").matcher(source).find());
    }

    private static void text(String source) {
        Check.that("signs 1 to 127", source.chars().allMatch(sign -> sign > 0 && sign < 128));
        String code = source.replaceAll("(?s)/\\*.*?\\*/", " ").replaceAll("//[^\n]*", " ");
        for (String word : new String[] {"throw", "throws", "try", "catch", "synchronized", "assert", "import",
            "package", "double", "float", "protected", "new Object", "Exact", "MAX_VALUE", "MIN_VALUE"}) {
            Check.that("no " + word, !Pattern.compile("\\b" + word + "\\b").matcher(code).find());
        }
        Check.that("no lambda", !code.contains("->"));
        Check.that("no method reference", !code.contains("::"));
        Check.that("no annotation", !code.contains("@"));
        Matcher library = Pattern.compile("\\b(Math|Integer|Long|System|Arrays|String)\\b(\\.\\w+)?").matcher(code);
        while (library.find()) {
            Check.that("no " + library.group(), Set.of("Math.max", "Math.min", "Math.abs").contains(library.group()));
        }
    }
}
