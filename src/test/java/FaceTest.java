import java.lang.reflect.Constructor;
import java.lang.reflect.Field;
import java.lang.reflect.Method;
import java.lang.reflect.Modifier;
import java.nio.file.Files;
import java.nio.file.Path;
import java.util.List;
import java.util.Set;
import java.util.TreeSet;
import java.util.regex.Matcher;
import java.util.regex.Pattern;

/** The public face, and the rules of LANGUAGE.md that can be read off the class and its source. */
public final class FaceTest {
    private static final Set<String> FACE = Set.of("int method()", "int instruction(int,int,int,int,long)",
        "int handler(int,int,int,int,int)", "int run(int,long,int)", "int step(int,long,int)", "long answer()", "int told(int)",
        "int entries(int)", "int entry(int,int,int)", "int about(int,int)", "int clear()");
    private static final String SOURCE = "src/main/java/StepMarks.java";
    private static int wrong = 0;

    private static void due(String what, Object got, Object want) {
        if (!got.equals(want)) {
            wrong++;
            System.out.println(what + ": " + got + ", due is " + want);
        }
    }

    public static void main(String[] args) throws Exception {
        members();
        nested();
        size(StepMarks.class);
        for (Class<?> one : StepMarks.class.getDeclaredClasses()) {
            size(one);
        }
        source();
        lengths();
        System.out.println(wrong == 0 ? "the face is as due" : wrong + " things are not as due");
        if (wrong != 0) {
            System.exit(1);
        }
    }

    private static void members() {
        Class<?> face = StepMarks.class;
        due("public and final", Modifier.toString(face.getModifiers()), "public final");
        Set<String> methods = new TreeSet<>();
        Set<String> publicNames = new TreeSet<>();
        for (Method m : face.getDeclaredMethods()) {
            if (!Modifier.isPrivate(m.getModifiers())) {
                due(m.getName(), Modifier.toString(m.getModifiers()), "public");
                methods.add(m.toString().replaceAll("public (\\w+) StepMarks\\.", "$1 "));
                publicNames.add(m.getName());
            }
        }
        due("methods", methods, new TreeSet<>(FACE));
        for (Method m : face.getDeclaredMethods()) {
            if (Modifier.isPrivate(m.getModifiers())) {
                due("a private name " + m.getName() + " is public, too", publicNames.contains(m.getName()), false);
            }
        }
        Set<String> constants = new TreeSet<>();
        for (Field f : face.getDeclaredFields()) {
            if (!Modifier.isPrivate(f.getModifiers())) {
                constants.add(Modifier.toString(f.getModifiers()) + " " + f.getType() + " " + f.getName());
            }
        }
        String c = "public static final int ";
        due("constants", constants, new TreeSet<>(Set.of(c + "NONE", c + "BAD", c + "FULL", c + "LARGE")));
        Constructor<?>[] constructors = face.getDeclaredConstructors();
        due("constructors", constructors.length, 1);
        due("constructor", constructors[0].toString(), "public StepMarks()");
    }

    private static void nested() {
        Class<?>[] classes = StepMarks.class.getDeclaredClasses();
        due("at most twelve classes", classes.length < 12, true);
        for (Class<?> one : classes) {
            due(one + " is static", Modifier.isStatic(one.getModifiers()), true);
            due(one + " is not seen outside", Modifier.isPublic(one.getModifiers()) || Modifier.isProtected(one.getModifiers()), false);
            for (Field f : one.getDeclaredFields()) {
                due("no static state in " + one, Modifier.isStatic(f.getModifiers()), false);
            }
        }
    }

    /** Rules 5 and 11: static fields are constants, few parameters, few fields. */
    private static void size(Class<?> one) {
        int fields = 0;
        for (Field f : one.getDeclaredFields()) {
            if (Modifier.isStatic(f.getModifiers())) {
                due(f + " is a constant", Modifier.isFinal(f.getModifiers()) && f.getType().isPrimitive(), true);
            } else {
                fields++;
            }
        }
        due(one + " has at most twenty fields", fields <= 20, true);
        for (Method m : one.getDeclaredMethods()) {
            due(m + " takes at most seven parameters", m.getParameterCount() <= 7, true);
        }
    }

    /** Rule 11: a method ends where its first line's indent comes back. */
    private static void lengths() throws Exception {
        List<String> lines = Files.readAllLines(Path.of(SOURCE));
        int begin = -1;
        String close = "";
        int methods = 0;
        for (int at = 0; at < lines.size(); at++) {
            String line = lines.get(at);
            if (line.matches(" {4}( {4})?(\\w+ )*\\w+\\(.*\\) \\{")) {
                begin = at;
                close = line.substring(0, line.length() - line.stripLeading().length()) + "}";
                methods++;
            } else if (line.equals(close) && begin >= 0) {
                due("lines of " + lines.get(begin).trim(), at - begin + 1 <= 60, true);
                begin = -1;
            }
        }
        due("methods are found", methods > 60, true);
    }

    private static void source() throws Exception {
        String text = Files.readString(Path.of(SOURCE));
        String code = text.replaceAll("(?s)/\\*.*?\\*/", " ").replaceAll("//[^\n]*", " ");
        Matcher m = Pattern.compile("\\b(throw|throws|try|catch|synchronized|assert|import|package|float|Object|System|\\w+Exact|NaN)\\b|->|::|@|\"").matcher(code);
        while (m.find()) {
            due("in the source", m.group(), "not there");
        }
    }
}
