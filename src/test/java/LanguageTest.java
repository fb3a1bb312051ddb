import java.io.IOException;
import java.lang.reflect.Array;
import java.lang.reflect.Constructor;
import java.lang.reflect.Field;
import java.lang.reflect.Method;
import java.lang.reflect.Modifier;
import java.nio.file.Files;
import java.nio.file.Path;
import java.util.ArrayList;
import java.util.Arrays;
import java.util.Collections;
import java.util.IdentityHashMap;
import java.util.List;
import java.util.Set;
import java.util.TreeSet;

/** The face of the class, and those rules of LANGUAGE.md that its members and the words of its source can tell. */
final class LanguageTest {
    private static final Check CHECK = new Check("LanguageTest");
    private static final Path SOURCE = Path.of("src/main/java/OmitMarkup.java");

    private static final String[] FACE = {
        "int slot(int, int, boolean, int) throws IndexOutOfBoundsException, IllegalArgumentException, IllegalStateException",
        "int empty(int) throws IndexOutOfBoundsException",
        "void except(int, int, int) throws IndexOutOfBoundsException, IllegalArgumentException",
        "void omit(int, boolean, boolean) throws IndexOutOfBoundsException",
        "int entity(int, int, int) throws IndexOutOfBoundsException, IllegalArgumentException, IllegalStateException",
        "int clear(int) throws IndexOutOfBoundsException",
        "int flip(int, int) throws IndexOutOfBoundsException, IllegalArgumentException",
        "int insert(int, int, int) throws IndexOutOfBoundsException, IllegalArgumentException, IllegalStateException",
        "int erase(int) throws IndexOutOfBoundsException",
        "int normalize() throws IllegalStateException",
        "int length()",
        "int anew()",
        "int open(int) throws IndexOutOfBoundsException",
        "int current(int) throws IndexOutOfBoundsException",
        "int next(int) throws IndexOutOfBoundsException",
        "int things()",
        "int kind(int) throws IndexOutOfBoundsException",
        "int parent(int) throws IndexOutOfBoundsException",
        "char letter(int) throws IndexOutOfBoundsException",
        "int placeOf(int) throws IndexOutOfBoundsException",
        "boolean isPutIn(int) throws IndexOutOfBoundsException",
        "int endsPutIn()",
        "int errors()",
        "int errorKind(int) throws IndexOutOfBoundsException",
        "int errorAt(int) throws IndexOutOfBoundsException",
        "int normal()",
        "int normalSort(int) throws IndexOutOfBoundsException",
        "int normalValue(int) throws IndexOutOfBoundsException",
        "boolean isSame()",
        "int ways() throws IllegalStateException",
    };

    private static final String CONSTANTS = "NONE=-1 ONE=0 OPTIONAL=1 STAR=2 PLUS=3 START=0 END=1 EMPTY_START=2 EMPTY_END=3 DATA=4"
        + " LINE=5 ENTITY=6 MARK=7 MARK_END=8 INCLUDE=0 IGNORE=1 PLAIN=2 NOT_HERE=0 NOTHING=1 SHORT=2 OPEN=3 RING=4 UNMARKED=5 DEEP=6";

    private LanguageTest() { }

    public static void main(String[] args) throws Exception {
        theFace();
        theConstants();
        members();
        words();
        theRoom();
        CHECK.end();
    }

    private static String signature(Method m) {
        StringBuilder b = new StringBuilder(m.getReturnType().getSimpleName()).append(' ').append(m.getName()).append('(');
        for (int i = 0; i < m.getParameterCount(); i++) {
            b.append(i > 0 ? ", " : "").append(m.getParameterTypes()[i].getSimpleName());
        }
        b.append(')');
        for (int i = 0; i < m.getExceptionTypes().length; i++) {
            b.append(i > 0 ? ", " : " throws ").append(m.getExceptionTypes()[i].getSimpleName());
        }
        return b.toString();
    }

    private static void theFace() {
        TreeSet<String> due = new TreeSet<>(Arrays.asList(FACE));
        TreeSet<String> got = new TreeSet<>();
        for (Method m : OmitMarkup.class.getDeclaredMethods()) {
            if (m.isSynthetic()) continue;
            if (!Modifier.isPrivate(m.getModifiers())) {
                got.add(signature(m));
                CHECK.same(m.getName() + " is public, and of the object", m.getModifiers(), Modifier.PUBLIC);
            }
        }
        CHECK.same("the methods", String.join("\n", got), String.join("\n", due));
        Constructor<?>[] made = OmitMarkup.class.getDeclaredConstructors();
        CHECK.same("one constructor", made.length, 1);
        CHECK.same("public, without parameters", made[0].getModifiers() * 10 + made[0].getParameterCount(), 10);
        CHECK.same("a public final class", OmitMarkup.class.getModifiers(), Modifier.PUBLIC | Modifier.FINAL);
    }

    private static void theConstants() throws IllegalAccessException {
        TreeSet<String> got = new TreeSet<>();
        for (Field f : OmitMarkup.class.getDeclaredFields()) {
            if (Modifier.isPrivate(f.getModifiers())) continue;
            CHECK.same(f.getName(), f.getModifiers(), Modifier.PUBLIC | Modifier.STATIC | Modifier.FINAL);
            got.add(f.getName() + "=" + f.getInt(null));
        }
        CHECK.same("the constants", String.join(" ", got), String.join(" ", new TreeSet<>(List.of(CONSTANTS.split(" ")))));
    }

    private static void members() {
        TreeSet<String> faceNames = new TreeSet<>();
        for (String line : FACE) faceNames.add(line.substring(line.indexOf(' ') + 1, line.indexOf('(')));
        List<Class<?>> classes = new ArrayList<>(List.of(OmitMarkup.class));
        classes.addAll(List.of(OmitMarkup.class.getDeclaredClasses()));
        CHECK.same("at most 12 classes", classes.size() <= 12, true);
        for (Class<?> c : classes) {
            String name = c.getSimpleName();
            if (c != OmitMarkup.class) {
                CHECK.same(name + " is static", Modifier.isStatic(c.getModifiers()), true);
                CHECK.same(name + " is not public", Modifier.isPublic(c.getModifiers()) || Modifier.isProtected(c.getModifiers()), false);
            }
            int fields = 0;
            for (Field f : c.getDeclaredFields()) {
                if (f.isSynthetic()) continue;
                boolean isStatic = Modifier.isStatic(f.getModifiers());
                CHECK.same(name + "." + f.getName() + ": static ones are final", isStatic && !Modifier.isFinal(f.getModifiers()), false);
                fields += isStatic ? 0 : 1;
            }
            CHECK.same(name + " has at most 20 fields", fields <= 20, true);
            for (Method m : c.getDeclaredMethods()) {
                if (m.isSynthetic()) continue;
                boolean isFace = c == OmitMarkup.class && Modifier.isPublic(m.getModifiers());
                CHECK.same(name + "." + m.getName() + " bears no name of the face", !isFace && faceNames.contains(m.getName()), false);
                CHECK.same(name + "." + m.getName() + " has at most 7 parameters", m.getParameterCount() <= 7, true);
            }
        }
    }

    /** Counts an object or array and all that it holds into 0: objects and arrays, 1: fields and elements. */
    private static void count(Object o, Set<Object> seen, int[] counts) throws IllegalAccessException {
        if (o == null || !seen.add(o)) return;
        counts[0]++;
        if (o.getClass().isArray()) {
            counts[1] += Array.getLength(o);
            boolean isOfObjects = !o.getClass().getComponentType().isPrimitive();
            for (int i = 0; isOfObjects && i < Array.getLength(o); i++) count(Array.get(o, i), seen, counts);
            return;
        }
        for (Field f : o.getClass().getDeclaredFields()) {
            if (Modifier.isStatic(f.getModifiers())) continue;
            counts[1]++;
            f.setAccessible(true);
            if (!f.getType().isPrimitive()) count(f.get(o), seen, counts);
        }
    }

    private static int[] room(OmitMarkup x) throws IllegalAccessException {
        int[] counts = new int[2];
        count(x, Collections.newSetFromMap(new IdentityHashMap<>()), counts);
        return counts;
    }

    /** An object takes a hundredth of the room at the most, and holds no more behind 512 calls. */
    private static void theRoom() throws IllegalAccessException {
        OmitMarkup x = new OmitMarkup();
        int[] atFirst = room(x);
        CHECK.same("objects and arrays", atFirst[0] <= 6000, true);
        CHECK.same("fields and elements", atFirst[1] <= 73000, true);
        Notation.model(x, 0, "1D*");
        Notation.model(x, 1, "D*");
        for (int e = 0; e < 10; e++) x.omit(e, true, true);
        for (int i = 0; i < 500; i++) {
            if (i % 9 < 5) x.insert(x.length() / 2, i % 5, '0' * (i % 5 / 4) + i % 2);
            else if (i % 9 < 8) x.erase(x.length() / 3);
            else x.normalize();
        }
        CHECK.same("objects and arrays behind 512 calls", room(x)[0], atFirst[0]);
        CHECK.same("fields and elements behind 512 calls", room(x)[1], atFirst[1]);
    }

    /** The source without its comments, and with its strings emptied. */
    private static String bare(String source) {
        StringBuilder b = new StringBuilder();
        int i = 0;
        while (i < source.length()) {
            if (source.startsWith("/*", i)) {
                int end = source.indexOf("*/", i) + 2;
                source.substring(i, end).chars().filter(c -> c == '\n').forEach(c -> b.append('\n'));
                i = end;
            } else if (source.startsWith("//", i)) {
                i = source.indexOf('\n', i);
            } else if (source.charAt(i) == '"') {
                b.append("\"\"");
                i = source.indexOf('"', i + 1) + 1;
            } else {
                b.append(source.charAt(i++));
            }
        }
        return b.toString();
    }

    private static void words() throws IOException {
        String source = Files.readString(SOURCE);
        CHECK.same("signs 1 to 127 alone", source.chars().allMatch(c -> c > 0 && c < 128), true);
        String bare = bare(source);
        String[] banned = {"import", "package", "synchronized", "assert", "finally", "try", "catch", "protected", "var", "yield", "record",
            "hashCode", "equals", "toString", "System", "Math", "Object", "Thread", "native", "volatile", "transient"};
        for (String word : banned) {
            CHECK.same("no word " + word, bare.matches("(?s).*\\b" + word + "\\b.*"), false);
        }
        for (String sign : new String[] {"->", "::", "@", "+ \"", "\" +", "+=\"", "/ 0", "instanceof"}) {
            CHECK.same("no " + sign, bare.contains(sign), false);
        }
        for (String line : bare.split("\n")) {
            if (line.contains("throw ")) {
                boolean isFit = line.trim().matches("throw new (IndexOutOfBoundsException|IllegalArgumentException|IllegalStateException)\\(\"\"\\);");
                CHECK.same(line.trim(), isFit, true);
            }
        }
        methodLengths(bare);
    }

    private static void methodLengths(String bare) {
        int longest = 0;
        int begun = 0;
        String[] lines = bare.split("\n");
        for (int i = 0; i < lines.length; i++) {
            if (lines[i].matches("( {4}| {8})[a-zA-Z\\[\\] ]+\\(.*\\{")) begun = i;
            if (lines[i].matches("( {4}| {8})\\}")) longest = Math.max(longest, i - begun + 1 > 200 ? 0 : i - begun + 1);
        }
        CHECK.same("methods are short", longest > 3 && longest <= 60, true);
    }
}
