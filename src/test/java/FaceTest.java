import java.lang.reflect.Constructor;
import java.lang.reflect.Field;
import java.lang.reflect.Method;
import java.lang.reflect.Modifier;
import java.nio.file.Files;
import java.nio.file.Path;
import java.util.Arrays;
import java.util.Set;
import java.util.TreeSet;
import java.util.regex.Matcher;
import java.util.regex.Pattern;

/** The class has the face of the document and nothing more, and its source keeps to LANGUAGE.md where a text shows it. */
public final class FaceTest {
    private static final Due due = new Due();
    private static final Set<String> METHODS = Set.of("say 1", "wipe 0", "fault 0", "work 1", "join 3", "undone 2", "step 3",
        "written 2", "at 3", "met 4", "told 2", "pin 3", "letter 2", "shortest 2", "same 2", "part 1", "image 1", "restore 1",
        "count 1");
    private static final Set<String> CONSTANTS = Set.of("UNKNOWN -1", "OUTSIDE -2", "STATE -3", "FULL -4", "NONE -6",
        "FAULT -7");

    public static void main(String[] args) throws Exception {
        due.is("public final", LaceWorks.class.getModifiers(), Modifier.PUBLIC | Modifier.FINAL);
        methods();
        constants();
        constructors();
        classesInside();
        source();
        due.end();
    }

    private static void alike(String what, Set<String> got, Set<String> want) {
        if (got.equals(want)) {
            due.is(what, 0, 0);
        } else {
            due.fail(what + " are " + new TreeSet<>(got) + ", due are " + new TreeSet<>(want));
        }
    }

    private static void methods() {
        Set<String> open = new TreeSet<>();
        Set<String> names = new TreeSet<>();
        for (Method m : LaceWorks.class.getDeclaredMethods()) {
            if (!Modifier.isPrivate(m.getModifiers())) {
                open.add(m.getName() + " " + m.getParameterCount());
                names.add(m.getName());
                due.is(m + " is public only", m.getModifiers(), Modifier.PUBLIC);
                due.is(m + " is of int", m.getReturnType() == int.class ? 1 : 0, 1);
                due.is(m + " takes int", Arrays.stream(m.getParameterTypes()).allMatch(t -> t == int.class) ? 1 : 0, 1);
            }
        }
        alike("methods", open, METHODS);
        for (Class<?> c : LaceWorks.class.getDeclaredClasses()) {
            for (Method m : c.getDeclaredMethods()) {
                due.is(m + " bears a name of the face", names.contains(m.getName()) ? 1 : 0, 0);
            }
        }
        for (Method m : LaceWorks.class.getDeclaredMethods()) {
            if (Modifier.isPrivate(m.getModifiers())) {
                due.is(m + " bears a name of the face", names.contains(m.getName()) ? 1 : 0, 0);
            }
        }
    }

    private static void constants() throws IllegalAccessException {
        Set<String> open = new TreeSet<>();
        for (Field f : LaceWorks.class.getDeclaredFields()) {
            if (!Modifier.isPrivate(f.getModifiers())) {
                due.is(f + " is a constant", f.getModifiers(), Modifier.PUBLIC | Modifier.STATIC | Modifier.FINAL);
                open.add(f.getName() + " " + f.get(null));
            }
        }
        alike("constants", open, CONSTANTS);
    }

    private static void constructors() {
        Constructor<?>[] all = LaceWorks.class.getDeclaredConstructors();
        due.is("constructors", all.length, 1);
        due.is("constructor is public", all[0].getModifiers(), Modifier.PUBLIC);
        due.is("constructor takes nothing", all[0].getParameterCount(), 0);
    }

    private static void classesInside() {
        Class<?>[] all = LaceWorks.class.getDeclaredClasses();
        due.is("classes inside, at most 11", Math.max(all.length, 11), 11);
        for (Class<?> c : all) {
            due.is(c + " is static", Modifier.isStatic(c.getModifiers()) ? 1 : 0, 1);
            due.is(c + " is public", Modifier.isPublic(c.getModifiers()) ? 1 : 0, 0);
            for (Constructor<?> made : c.getDeclaredConstructors()) {
                // Then the constructor of LaceWorks has nothing of its object to hand out.
                due.is(made + " takes numbers", Arrays.stream(made.getParameterTypes()).allMatch(Class::isPrimitive) ? 1 : 0, 1);
            }
        }
    }

    private static void source() throws Exception {
        String text = Files.readString(Path.of("src/main/java/LaceWorks.java"));
        String code = text.replaceAll("(?s)/\\*.*?\\*/", " ").replaceAll("//[^\n]*", " ");
        String words = "throw|try|catch|synchronized|assert|package|Exact|Random|System\\.[^a]|Thread|->|::|hashCode|toString|float|double";
        Matcher found = Pattern.compile(words).matcher(code);
        while (found.find()) {
            due.fail("the source says " + found.group());
        }
        Matcher imports = Pattern.compile("import ([^;]*);").matcher(code);
        while (imports.find()) {
            due.is("imports " + imports.group(1), imports.group(1).equals("java.util.Arrays") ? 1 : 0, 1);
        }
        due.is("signs beyond 127", text.chars().filter(c -> c > 127).count(), 0);
    }
}
