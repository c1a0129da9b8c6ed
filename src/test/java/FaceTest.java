import java.io.IOException;
import java.io.UncheckedIOException;
import java.lang.reflect.Constructor;
import java.lang.reflect.Field;
import java.lang.reflect.Method;
import java.lang.reflect.Modifier;
import java.nio.file.Files;
import java.nio.file.Path;
import java.util.StringJoiner;
import java.util.TreeSet;

/**
 * The public face is the document's, as it stands under "The public face" of DOC.md, with what each method is said to
 * throw; and nothing else of the class can be seen from outside (rule 1 of LANGUAGE.md).
 */
public final class FaceTest {
    private static final Check CHECK = new Check();

    public static void main(String[] args) throws IllegalAccessException {
        TreeSet<String> promised = promisedFace();
        CHECK.due("members of the document's face", promised.size(), 24);
        CHECK.dueText("the face", seenFace().toString(), promised.toString());
        ownMembers(ColourCharts.class, publicNames());
        classesInside();
        CHECK.end("FaceTest");
    }

    /** Without the parameters' names, as a class file need not tell them. */
    private static TreeSet<String> promisedFace() {
        String document = read("../shared/DOC.md");
        int start = document.indexOf("```java", document.indexOf("## The public face"));
        String face = document.substring(start, document.indexOf("```", start + 3));
        TreeSet<String> promised = new TreeSet<>();
        for (String line : face.split("\n")) {
            String member = line.trim();
            if (member.startsWith("public ")) {
                member = member.replaceAll("int \\w+([,)])", "int$1");
                promised.add(member.replaceAll(" *[;{]$", ""));
            }
        }
        return promised;
    }

    private static TreeSet<String> seenFace() throws IllegalAccessException {
        TreeSet<String> seen = new TreeSet<>();
        seen.add(Modifier.toString(ColourCharts.class.getModifiers()) + " class " + ColourCharts.class.getName());
        for (Method m : ColourCharts.class.getDeclaredMethods()) {
            if (!Modifier.isPrivate(m.getModifiers()) && !m.isSynthetic()) {
                String head = Modifier.toString(m.getModifiers()) + " " + m.getReturnType() + " " + m.getName();
                seen.add(head + listed("(", m.getParameterTypes(), ")") + listed(" throws ", m.getExceptionTypes(), ""));
            }
        }
        for (Constructor<?> made : ColourCharts.class.getDeclaredConstructors()) {
            String head = Modifier.toString(made.getModifiers()) + " " + made.getName();
            seen.add(head + listed("(", made.getParameterTypes(), ")") + listed(" throws ", made.getExceptionTypes(), ""));
        }
        for (Field f : ColourCharts.class.getDeclaredFields()) {
            if (!Modifier.isPrivate(f.getModifiers())) {
                String head = Modifier.toString(f.getModifiers()) + " " + f.getType() + " " + f.getName();
                seen.add(head + " = " + f.get(null));
            }
        }
        return seen;
    }

    /** Empty where there is neither a type nor a closing sign. */
    private static String listed(String before, Class<?>[] types, String after) {
        StringJoiner list = new StringJoiner(", ", before, after);
        for (Class<?> type : types) {
            list.add(type.getSimpleName());
        }
        return types.length == 0 && after.isEmpty() ? "" : list.toString();
    }

    private static String read(String file) {
        try {
            return Files.readString(Path.of(file));
        } catch (IOException e) {
            throw new UncheckedIOException(e);
        }
    }

    private static void ownMembers(Class<?> within, TreeSet<String> publicNames) {
        for (Method m : within.getDeclaredMethods()) {
            if (!Modifier.isPublic(m.getModifiers())) {
                CHECK.due(m.getName() + " bears a public one's name", publicNames.contains(m.getName()), false);
            }
        }
        for (Field f : within.getDeclaredFields()) {
            if (Modifier.isStatic(f.getModifiers())) {
                CHECK.due("static field " + f.getName() + " is final", Modifier.isFinal(f.getModifiers()), true);
            }
        }
    }

    private static TreeSet<String> publicNames() {
        TreeSet<String> names = new TreeSet<>();
        for (Method m : ColourCharts.class.getDeclaredMethods()) {
            if (Modifier.isPublic(m.getModifiers())) {
                names.add(m.getName());
            }
        }
        return names;
    }

    private static void classesInside() {
        for (Class<?> inside : ColourCharts.class.getDeclaredClasses()) {
            ownMembers(inside, publicNames());
            int modifiers = inside.getModifiers();
            CHECK.due(inside + " is static", Modifier.isStatic(modifiers), true);
            CHECK.due(inside + " is seen outside", Modifier.isPublic(modifiers) || Modifier.isProtected(modifiers), false);
        }
        CHECK.due("some twelve classes at most", ColourCharts.class.getDeclaredClasses().length <= 11, true);
    }
}
