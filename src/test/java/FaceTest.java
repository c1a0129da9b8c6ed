import java.lang.reflect.Constructor;
import java.lang.reflect.Field;
import java.lang.reflect.Method;
import java.lang.reflect.Modifier;
import java.util.Arrays;
import java.util.TreeSet;

/** The public face is the document's, and nothing else of the class can be seen from outside (rule 1 of LANGUAGE.md). */
public final class FaceTest {
    private static final Check CHECK = new Check();

    private static final String[] DUE = {
        "boolean find()", "int box(int)", "int colour(int, int)", "int count(int)", "int day(int, int)",
        "int difference(int)", "int fit()", "int light(int, int, int)", "int lit(int, int, int)", "int neutral(int)",
        "int pixel(int, int, int, int)", "int read(int, int)", "int reject()", "int rule()", "int turn(int)",
        "int unit(int)", "long drift(int)", "long line(int, int)", "long noise(int, int)", "void grid(int, int)",
        "void target(int, int, int, int)"};

    public static void main(String[] args) {
        CHECK.dueText("the class", Modifier.toString(ColourCharts.class.getModifiers()), "public final");
        methods();
        fieldsAndConstructors();
        classesInside();
        CHECK.end("FaceTest");
    }

    private static void methods() {
        TreeSet<String> seen = new TreeSet<>();
        TreeSet<String> publicNames = new TreeSet<>();
        for (Method m : ColourCharts.class.getDeclaredMethods()) {
            if (!Modifier.isPrivate(m.getModifiers()) && !m.isSynthetic()) {
                seen.add(shown(m));
                publicNames.add(m.getName());
                CHECK.due(m.getName() + " is public", Modifier.isPublic(m.getModifiers()), true);
            }
        }
        CHECK.dueText("methods", seen.toString(), new TreeSet<>(Arrays.asList(DUE)).toString());
        for (Method m : ColourCharts.class.getDeclaredMethods()) {
            if (Modifier.isPrivate(m.getModifiers())) {
                CHECK.due(m.getName() + " bears a public one's name", publicNames.contains(m.getName()), false);
            }
        }
    }

    private static String shown(Method m) {
        String parameters = Arrays.toString(m.getParameterTypes()).replace('[', '(').replace(']', ')');
        return m.getReturnType() + " " + m.getName() + parameters;
    }

    private static void fieldsAndConstructors() {
        for (Field f : ColourCharts.class.getDeclaredFields()) {
            boolean none = f.getName().equals("NONE");
            CHECK.due("field " + f.getName() + " is private", Modifier.isPrivate(f.getModifiers()), !none);
            if (Modifier.isStatic(f.getModifiers())) {
                CHECK.due("static field " + f.getName() + " is final", Modifier.isFinal(f.getModifiers()), true);
            }
        }
        CHECK.due("constructors", ColourCharts.class.getDeclaredConstructors().length, 1);
        for (Constructor<?> made : ColourCharts.class.getDeclaredConstructors()) {
            CHECK.dueText("constructor", made.toString(), "public ColourCharts(int,int)");
        }
    }

    private static void classesInside() {
        for (Class<?> inside : ColourCharts.class.getDeclaredClasses()) {
            int modifiers = inside.getModifiers();
            CHECK.due(inside + " is static", Modifier.isStatic(modifiers), true);
            CHECK.due(inside + " is seen outside", Modifier.isPublic(modifiers) || Modifier.isProtected(modifiers), false);
        }
        CHECK.due("some twelve classes at most", ColourCharts.class.getDeclaredClasses().length <= 11, true);
    }
}
