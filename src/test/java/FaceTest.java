import java.lang.reflect.Constructor;
import java.lang.reflect.Field;
import java.lang.reflect.Method;
import java.lang.reflect.Modifier;
import java.nio.charset.StandardCharsets;
import java.nio.file.Files;
import java.nio.file.Path;
import java.util.Set;
import java.util.TreeSet;
import java.util.regex.Matcher;
import java.util.regex.Pattern;

/** The face is the document's, and the source keeps to what LANGUAGE.md leaves. */
public final class FaceTest {
    private static final Set<String> FACE = Set.of(
        "feed(int,long)", "maze()", "text()", "force(int)", "leads(int,int,int)", "pebbles(int,int,int)",
        "walker(int,int,int)", "told(int,int)", "says(int,int)", "step(int,int)", "run(int,int,int)",
        "ring(int,int)", "meet(int,int)", "alike(int,int)", "tells(int,int,int)", "way(int,int)",
        "all(int,int)", "free(int)", "begins(int,int,int)", "image()", "back()", "count(int)",
        "sheet(int,int,int)", "cell(int,int,int)", "copy(int,int,int,int,int)",
        "walkers(int,int,int,int)", "taken(int,int)");

    public static void main(String[] args) throws Exception {
        face();
        source();
        Check.close("FaceTest");
    }

    private static void face() {
        Class<?> c = ElevenPebbles.class;
        Check.that("the class is public and final", c.getModifiers() == (Modifier.PUBLIC | Modifier.FINAL));
        Set<String> found = new TreeSet<>();
        Set<String> names = new TreeSet<>();
        for (Method m : c.getDeclaredMethods()) {
            if (Modifier.isPublic(m.getModifiers())) {
                found.add(signature(m));
                names.add(m.getName());
                Check.that(m + " answers an int", m.getReturnType() == int.class);
            }
        }
        Check.that("the methods are " + FACE + ", not " + found, found.equals(new TreeSet<>(FACE)));
        for (Method m : c.getDeclaredMethods()) {
            boolean isPublic = Modifier.isPublic(m.getModifiers());
            Check.that(m + " is public or private", isPublic || Modifier.isPrivate(m.getModifiers()));
            Check.that(m + " bears no public name", isPublic || !names.contains(m.getName()));
        }
        for (Constructor<?> made : c.getDeclaredConstructors()) {
            Check.that(made + " is public, without parameters",
                Modifier.isPublic(made.getModifiers()) && made.getParameterCount() == 0);
        }
        Set<String> constants = Set.of("NONE", "BAD", "STATE", "FULL");
        for (Field f : c.getDeclaredFields()) {
            boolean isPublic = Modifier.isPublic(f.getModifiers());
            Check.that(f + " is public or private", isPublic == constants.contains(f.getName())
                && (isPublic || Modifier.isPrivate(f.getModifiers())));
        }
        for (Class<?> inside : c.getDeclaredClasses()) {
            Check.that(inside + " is static", Modifier.isStatic(inside.getModifiers()));
            for (Method m : inside.getDeclaredMethods()) {
                Check.that(m + " bears no public name", !names.contains(m.getName()));
                Check.that(m + " takes seven at most", m.getParameterCount() <= 7);
            }
        }
        Check.that("twelve classes at most", c.getDeclaredClasses().length + 1 <= 12);
        fields(c);
        for (Class<?> inside : c.getDeclaredClasses()) {
            fields(inside);
        }
    }

    /** Static fields are final and of few types; a class has some twenty others. */
    private static void fields(Class<?> c) {
        Set<Class<?>> constants = Set.of(int.class, long.class, boolean.class, char.class, String.class,
            int[].class, long[].class, char[].class, byte[].class);
        int own = 0;
        for (Field f : c.getDeclaredFields()) {
            if (Modifier.isStatic(f.getModifiers())) {
                Check.that(f + " is a constant", Modifier.isFinal(f.getModifiers()) && constants.contains(f.getType()));
            } else {
                own++;
                Check.that(f + " is of a type that is left", isLeft(f.getType()));
            }
        }
        Check.that(c + " has twenty fields at most", own <= 20);
    }

    /** Numbers, booleans, String, own classes; arrays of them; arrays of two dimensions of numbers alone. */
    private static boolean isLeft(Class<?> type) {
        Class<?> item = type.isArray() ? type.getComponentType() : type;
        if (item.isArray()) {
            return item.getComponentType().isPrimitive() && item.getComponentType() != boolean.class;
        }
        return item.isPrimitive() || item == String.class && !type.isArray() || item.getEnclosingClass() == ElevenPebbles.class;
    }

    private static String signature(Method m) {
        StringBuilder s = new StringBuilder(m.getName()).append('(');
        for (Class<?> type : m.getParameterTypes()) {
            s.append(s.charAt(s.length() - 1) == '(' ? "" : ",").append(type.getName());
        }
        return s.append(')').toString();
    }

    private static void source() throws Exception {
        String source = Files.readString(Path.of("src/main/java/ElevenPebbles.java"), StandardCharsets.UTF_8);
        String code = source.replaceAll("(?s)/\\*.*?\\*/", "").replaceAll("//[^\n]*", "")
            .replaceAll("\"[^\"\n]*\"", "\"\"").replaceAll("'[^'\n]'", "0");
        for (String word : new String[] {"throw", "throws", "try", "catch", "finally", "synchronized", "assert",
            "import", "package", "protected", "equals", "hashCode", "toString", "Exact", "Random", "Thread"}) {
            Check.that("no word " + word, !Pattern.compile("\\b" + word + "\\b").matcher(code).find());
        }
        Check.that("no lambda, no method reference", !code.contains("->") && !code.contains("::"));
        Check.that("no sign beyond 127", source.chars().allMatch(b -> b < 128));
        Matcher method = Pattern.compile("(?m)^( +)[^\n=;]*\\) \\{\n((?:\\1 .*\n|\n)*)\\1\\}$").matcher(code);
        while (method.find()) {
            long lines = method.group(2).lines().count();
            Check.that(method.group().lines().findFirst().orElse("") + " has " + lines + " lines", lines <= 60);
        }
        Matcher library = Pattern.compile("\\b(Math|Integer|Long|System|Arrays)\\.(\\w+)").matcher(code);
        Set<String> allowed = Set.of("Math.min", "Math.max", "Integer.bitCount", "System.arraycopy");
        while (library.find()) {
            Check.that(library.group() + " is of the library that is left", allowed.contains(library.group()));
        }
    }
}
