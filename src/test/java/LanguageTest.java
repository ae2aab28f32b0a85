import java.io.IOException;
import java.lang.management.ManagementFactory;
import java.lang.reflect.Constructor;
import java.lang.reflect.Field;
import java.lang.reflect.Method;
import java.lang.reflect.Modifier;
import java.nio.file.Files;
import java.nio.file.Path;
import java.util.Arrays;
import java.util.HashSet;
import java.util.List;
import java.util.Set;
import java.util.TreeSet;
import java.util.regex.Matcher;
import java.util.regex.Pattern;

/** The face that the document tells, the rules of LANGUAGE.md that a text or the machine shows, and the room. */
public final class LanguageTest {
    private static final String FACE = "long chance(int, int, int, int); int asks(int, int, int); int back(); int cell(int, int, int); "
            + "int copy(int, int, int, int, int); int count(int); int cover(int, int); int does(int, int); int drawn(int, int); "
            + "int feed(int); int film(int, int); int force(int); int image(); int lasts(int); int letGo(int); int person(int, int); "
            + "int republic(int, int, int, int); int rota(int); int run(int, int); int saves(int, int); int set(int, int, int); "
            + "long share(int); int sheet(int, int, int); int taken(int, int); int tells(int, int, int); int text(); int told(int, int); "
            + "int year(); ";
    private static final List<String> BANNED = Arrays.asList("throw", "try", "catch", "finally", "synchronized", "assert", "import", "package",
            "lambda", "float", "double", "protected", "volatile", "transient", "native", "System.out", "System.exit", "->", "::", "@",
            "Exact(", "hashCode", "toString", "Random", "nanoTime", "currentTimeMillis", "Thread");

    public static void main(String[] args) throws IOException {
        Due.of("the face");
        constants();
        methods();
        Due.of("LANGUAGE.md");
        String source = Files.readString(Path.of("src/main/java/LawsLapse.java"));
        words(source);
        lengths(source);
        statics();
        Due.of("the room");
        room();
        Due.end("LanguageTest");
    }

    private static void constants() {
        Due.is(-1, LawsLapse.NONE, "NONE");
        Due.is(-2, LawsLapse.BAD, "BAD");
        Due.is(-3, LawsLapse.STATE, "STATE");
        Due.is(-4, LawsLapse.FULL, "FULL");
        Due.is(-4611686018427387904L, LawsLapse.NO, "NO");
        Set<String> open = new TreeSet<>();
        for (Field field : LawsLapse.class.getDeclaredFields()) {
            if (!Modifier.isPrivate(field.getModifiers())) open.add(Modifier.toString(field.getModifiers()) + " " + field.getType() + " " + field.getName());
        }
        Set<String> want = new TreeSet<>();
        for (String name : new String[] {"int NONE", "int BAD", "int STATE", "int FULL", "long NO"}) want.add("public static final " + name);
        yes(open.equals(want), "open fields are " + open);
    }

    private static void methods() {
        Class<?> face = LawsLapse.class;
        yes(Modifier.isPublic(face.getModifiers()) && Modifier.isFinal(face.getModifiers()), "the class is public and final");
        Constructor<?>[] makers = face.getDeclaredConstructors();
        yes(makers.length == 1 && makers[0].getParameterCount() == 0 && Modifier.isPublic(makers[0].getModifiers()), "the constructor");
        Set<String> open = new TreeSet<>();
        Set<String> openNames = new HashSet<>();
        for (Method method : face.getDeclaredMethods()) {
            if (Modifier.isPrivate(method.getModifiers()) || method.isSynthetic()) continue;
            String types = Arrays.toString(method.getParameterTypes()).replaceAll("[\\[\\]]", "");
            open.add(method.getReturnType() + " " + method.getName() + "(" + types + ")");
            openNames.add(method.getName());
        }
        Set<String> want = new TreeSet<>(Arrays.asList(FACE.trim().split(";\\s*")));
        yes(open.equals(want), "the face is " + open);
        for (Class<?> within : allClasses()) {
            for (Method method : within.getDeclaredMethods()) {
                boolean isFace = within == face && !Modifier.isPrivate(method.getModifiers());
                yes(isFace || !openNames.contains(method.getName()), "another method named " + method.getName() + " in " + within.getName());
                yes(method.getParameterCount() <= 7, "seven parameters at most: " + method.getName());
            }
        }
    }

    private static List<Class<?>> allClasses() {
        List<Class<?>> all = new java.util.ArrayList<>(Arrays.asList(LawsLapse.class.getDeclaredClasses()));
        all.add(LawsLapse.class);
        return all;
    }

    private static void statics() {
        yes(allClasses().size() <= 12, "some twelve classes");
        for (Class<?> within : allClasses()) {
            int held = 0;
            for (Field field : within.getDeclaredFields()) {
                boolean isStatic = Modifier.isStatic(field.getModifiers());
                yes(!isStatic || Modifier.isFinal(field.getModifiers()), "a static field that isn't final: " + field.getName());
                if (!isStatic) held++;
            }
            yes(held <= 20, "some twenty fields in " + within.getName());
            yes(within == LawsLapse.class || Modifier.isStatic(within.getModifiers()), within.getName() + " is static");
            yes(within == LawsLapse.class || !Modifier.isPublic(within.getModifiers()), within.getName() + " isn't public");
        }
    }

    /** The source without its comments, and without what stands between quotes. */
    private static String bare(String source) {
        return source.replaceAll("(?s)/\\*.*?\\*/", "").replaceAll("//[^\n]*", "").replaceAll("\"[^\"\n]*\"", "\"\"").replaceAll("'.'", "' '");
    }

    private static void words(String source) {
        String code = bare(source);
        for (String word : BANNED) {
            boolean isWord = word.matches("[a-zA-Z]+");
            Matcher matcher = Pattern.compile(isWord ? "\\b" + word + "\\b" : Pattern.quote(word)).matcher(code);
            yes(!matcher.find(), "the source has " + word);
        }
        Matcher library = Pattern.compile("\\b(Math|Integer|Long|System|Arrays|String|StringBuilder|List|ArrayList)\\.(\\w+)").matcher(code);
        Set<String> allowed = Set.of("Math.max", "Math.min", "Integer.bitCount", "System.arraycopy");
        while (library.find()) yes(allowed.contains(library.group()), "the source has " + library.group());
        for (int i = 0; i < source.length(); i++) {
            if (source.charAt(i) > 126) yes(false, "a sign above 126 at " + i);
        }
    }

    /** No method is longer than some sixty lines: from a line that opens one to the brace at the same indent. */
    private static void lengths(String source) {
        String[] lines = source.split("\n");
        for (int i = 0; i < lines.length; i++) {
            Matcher opens = Pattern.compile("^(\\s+)(public|private)\\b[^;=]*\\([^;]*\\) \\{$").matcher(lines[i]);
            if (!opens.find()) continue;
            int end = i;
            while (end < lines.length && !lines[end].equals(opens.group(1) + "}")) end++;
            yes(end - i <= 60, "a method of " + (end - i) + " lines: " + lines[i].trim());
        }
    }

    /** What 512 of the dearest calls make, in bytes, where the machine tells it: nothing is made after the constructor. */
    private static void room() {
        if (!(ManagementFactory.getThreadMXBean() instanceof com.sun.management.ThreadMXBean)) return;
        com.sun.management.ThreadMXBean bean = (com.sun.management.ThreadMXBean) ManagementFactory.getThreadMXBean();
        callsOfAll(new LawsLapse());
        long id = Thread.currentThread().getId();
        long madeBefore = bean.getThreadAllocatedBytes(id);
        LawsLapse x = new LawsLapse();
        long made = bean.getThreadAllocatedBytes(id) - madeBefore;
        yes(made < 40000, "a new object takes " + made + " bytes");
        long before = bean.getThreadAllocatedBytes(id);
        callsOfAll(x);
        long after = bean.getThreadAllocatedBytes(id);
        yes(after - before < 2000, "calls made " + (after - before) + " bytes");
    }

    private static void callsOfAll(LawsLapse x) {
        String text = "dares 1;harms -harm*(1+2);sits not 1<2;";
        for (int i = 0; i < 4; i++) x.person(i, 0);
        for (int times = 0; times < 6; times++) {
            for (int i = 0; i < text.length(); i++) x.feed(text.charAt(i));
            x.text();
            x.force(times);
            x.film(times % 4, 0);
            for (int what = 0; what < 9; what++) x.tells(times % 4, 0, what);
            x.sheet(0, 1, 40);
            x.cell(0, 1, 2);
            x.copy(0, 0, 0, 1, 4);
            x.republic(0, 1, 0, 4);
            x.rota(0);
            x.saves(10, 0);
            x.cover(255, 0);
            x.run(20, 0);
            x.lasts(0);
            x.chance(times, 20, 3, 0);
            x.image();
            x.does(1, times);
            x.year();
            x.back();
        }
    }

    private static void yes(boolean is, String what) {
        Due.is(1, is ? 1 : 0, what);
    }
}
