import java.lang.reflect.Constructor;
import java.lang.reflect.Field;
import java.lang.reflect.Method;
import java.lang.reflect.Modifier;
import java.nio.file.Files;
import java.nio.file.Path;
import java.util.Set;
import java.util.TreeSet;
import java.util.regex.Matcher;
import java.util.regex.Pattern;

/** The public face is the document's, and the source keeps to those rules of LANGUAGE.md that can be seen in it. */
public final class FaceTest {
    private static final Set<String> FACE = Set.of(
        "type(int)", "clear()", "tells()", "paints(int,int,int,int,int)", "floods(int,int,int)", "settles()", "fixes(int,int,int)", "undo()",
        "cell(int,int,int)", "square(int,int,int,int)", "kind(int,int)", "jars()", "least(int)",
        "sees(int,int)", "forget()", "which(int)", "look()", "keep(int)", "back(int)", "count(int)");
    private static final int MOST_LINES = 60;
    private static final Check CHECK = new Check();

    public static void main(String[] args) throws Exception {
        methods();
        constantsAndFields();
        classesInside();
        words();
        lengths();
        room();
        CHECK.end();
    }

    private static void methods() {
        CHECK.part("methods");
        Set<String> found = new TreeSet<>();
        Set<String> names = new TreeSet<>();
        for (Method m : GroundEdges.class.getDeclaredMethods()) {
            if (!Modifier.isPrivate(m.getModifiers()) && !m.isSynthetic()) {
                CHECK.isTrue(m + " is public, not static, and answers an int",
                    Modifier.isPublic(m.getModifiers()) && !Modifier.isStatic(m.getModifiers()) && m.getReturnType() == int.class);
                StringBuilder of = new StringBuilder();
                for (Class<?> type : m.getParameterTypes()) {
                    of.append(of.length() == 0 ? "" : ",").append(type.getName());
                }
                found.add(m.getName() + "(" + of + ")");
                names.add(m.getName());
            }
        }
        CHECK.isTrue("the methods are the document's: " + found, found.equals(FACE));
        for (Method m : GroundEdges.class.getDeclaredMethods()) {
            CHECK.isTrue(m + " has another name than a public one", !Modifier.isPrivate(m.getModifiers()) || !names.contains(m.getName()));
        }
        for (Class<?> inside : GroundEdges.class.getDeclaredClasses()) {
            for (Method m : inside.getDeclaredMethods()) {
                CHECK.isTrue(m + " has another name than a public one", !names.contains(m.getName()));
                CHECK.isTrue(m + " has at most seven parameters", m.getParameterCount() <= 7);
            }
        }
        Constructor<?>[] made = GroundEdges.class.getDeclaredConstructors();
        CHECK.isTrue("one public constructor without parameters",
            made.length == 1 && made[0].getParameterCount() == 0 && Modifier.isPublic(made[0].getModifiers()));
    }

    private static void constantsAndFields() throws Exception {
        CHECK.part("constants");
        Set<String> found = new TreeSet<>();
        for (Field f : GroundEdges.class.getDeclaredFields()) {
            if (!Modifier.isPrivate(f.getModifiers())) {
                CHECK.isTrue(f + " is a public constant", f.getModifiers() == (Modifier.PUBLIC | Modifier.STATIC | Modifier.FINAL));
                found.add(f.getName() + "=" + f.getInt(null));
            }
        }
        CHECK.isTrue("the constants are the document's: " + found, found.equals(Set.of("BAD=-1", "STATE=-2", "FULL=-3", "NONE=-9")));
    }

    private static void classesInside() {
        CHECK.part("classes");
        CHECK.isTrue("the class is public and final", GroundEdges.class.getModifiers() == (Modifier.PUBLIC | Modifier.FINAL));
        Class<?>[] inside = GroundEdges.class.getDeclaredClasses();
        CHECK.isTrue("at most twelve classes", inside.length < 12);
        for (Class<?> one : inside) {
            CHECK.isTrue(one + " is private and static", Modifier.isPrivate(one.getModifiers()) && Modifier.isStatic(one.getModifiers()));
            int fields = 0;
            for (Field f : one.getDeclaredFields()) {
                fields += Modifier.isStatic(f.getModifiers()) ? 0 : 1;
                CHECK.isTrue(f + " is final, if it is static", !Modifier.isStatic(f.getModifiers()) || Modifier.isFinal(f.getModifiers()));
            }
            CHECK.isTrue(one + " has at most twenty fields", fields <= 20);
        }
    }

    private static String source() throws Exception {
        String source = Files.readString(Path.of("src/main/java/GroundEdges.java"));
        return source.replaceAll("(?s)/\\*.*?\\*/", "").replaceAll("//[^\n]*", "");
    }

    private static void words() throws Exception {
        CHECK.part("words");
        String source = source();
        for (String word : new String[] {"throw", "throws", "try", "catch", "synchronized", "assert", "package", "protected",
            "Thread", "Object", "hashCode", "volatile", "native"}) {
            CHECK.isTrue("no " + word, !Pattern.compile("\\b" + word + "\\b").matcher(source).find());
        }
        CHECK.isTrue("no lambda, no method reference, no division", !source.contains("->") && !source.contains("::") && !source.contains("/") && !source.contains("%"));
        CHECK.isTrue("no text is joined by +", !Pattern.compile("\"\\s*\\+|\\+\\s*\"").matcher(source).find());
        CHECK.isTrue("signs 1 to 127 alone", source.chars().allMatch(sign -> sign >= 1 && sign <= 127));
        Matcher called = Pattern.compile("\\b(Math|Integer|Long|Arrays|String)\\.(\\w+)").matcher(source);
        while (called.find()) {
            CHECK.isTrue(called.group() + " is of the library", Set.of("Math.max", "Math.min", "Math.abs", "Integer.bitCount", "Long.bitCount").contains(called.group()));
        }
    }

    /** From a method's first line to the line of its closing bracket, by the indents that this file keeps. */
    private static void lengths() throws Exception {
        CHECK.part("lengths");
        String[] lines = Files.readString(Path.of("src/main/java/GroundEdges.java")).split("\n");
        for (int i = 0; i < lines.length; i++) {
            Matcher begins = Pattern.compile("^((?: {4}){1,2})(?!.*\\bclass\\b)\\w.*\\) \\{$").matcher(lines[i]);
            if (begins.find()) {
                int end = i;
                while (!lines[end].equals(begins.group(1) + "}")) {
                    end++;
                }
                CHECK.isTrue("short: " + lines[i], end - i < MOST_LINES);
            }
        }
    }

    /** All rows are made with the object: its calls make nothing. */
    private static void room() {
        CHECK.part("room");
        com.sun.management.ThreadMXBean threads = (com.sun.management.ThreadMXBean) java.lang.management.ManagementFactory.getThreadMXBean();
        GroundEdges g = Check.told("row 0303;row 3030;row 0303;row 3030;row 0303;row 3030;fix 2 2;");
        int sum = allCalls(g);
        long before = threads.getCurrentThreadAllocatedBytes();
        for (int i = 0; i < 100; i++) {
            sum += allCalls(g);
        }
        long made = threads.getCurrentThreadAllocatedBytes() - before;
        CHECK.isTrue("2,000 calls make nothing, not " + made + " bytes (" + sum + ")", made < 8000);
    }

    private static int allCalls(GroundEdges g) {
        int sum = g.type(114) + g.type(111) + g.type(119) + g.type(48) + g.type(59) + g.keep(0) + g.tells() + g.undo() + g.clear();
        sum += g.back(0) + g.paints(0, 0, 3, 5, 2) + g.floods(1, 1, 1) + g.undo() + g.undo() + g.least(-1) + g.least(7) + g.settles() + g.undo();
        sum += g.fixes(0, 0, 1) + g.fixes(0, 0, 0) + g.cell(3, 5, 2) + g.square(1, 1, 1, 1) + g.kind(-1, 0) + g.kind(0, 1) + g.jars();
        return sum + g.sees(1, 0) + g.which(0) + g.look() + g.forget() + g.look() + g.count(4);
    }
}
