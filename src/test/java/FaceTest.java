import java.io.IOException;
import java.lang.reflect.Constructor;
import java.lang.reflect.Field;
import java.lang.reflect.Member;
import java.lang.reflect.Method;
import java.lang.reflect.Modifier;
import java.nio.file.Files;
import java.nio.file.Path;
import java.util.ArrayList;
import java.util.Arrays;
import java.util.List;
import java.util.Set;
import java.util.TreeSet;
import java.util.stream.Collectors;

/** The face is the document's, to the letter, and no other member can be seen. */
public final class FaceTest {
    private static final Path DOCUMENT = Path.of("../shared/DOC.md");

    private FaceTest() {
    }

    public static void main(String[] args) throws IOException {
        Set<String> due = dueFace();
        Check.same("the constructor and the methods of the document", due.size(), 33);
        Check.same("the face", seenFace(), due);
        Check.same("public and final", LogWeave.class.getModifiers(), Modifier.PUBLIC | Modifier.FINAL);
        Check.same("above it", LogWeave.class.getSuperclass(), Object.class);
        Check.same("interfaces", LogWeave.class.getInterfaces().length, 0);
        for (Field field : LogWeave.class.getDeclaredFields()) {
            Check.same(field + " is private", isPrivate(field), true);
            Check.same(field + " is final or no static one", isPlain(field), true);
        }
        namesOfPrivateMethods();
        Check.end();
    }

    private static Set<String> dueFace() throws IOException {
        Set<String> face = new TreeSet<>();
        for (String line : Files.readAllLines(DOCUMENT)) {
            if (line.startsWith("    public ") && line.endsWith(";")) {
                String bare = line.strip().replace("public ", "").replace(";", "");
                face.add(bare.replaceAll("(int|char|boolean|long) \\w+(?=[,)])", "$1"));
            }
        }
        return face;
    }

    private static Set<String> seenFace() {
        Set<String> face = new TreeSet<>();
        for (Method method : LogWeave.class.getDeclaredMethods()) {
            if (!isPrivate(method)) {
                Check.same(method + " is public and no more", method.getModifiers(), Modifier.PUBLIC);
                face.add(method.getReturnType().getName() + " " + method.getName()
                        + listed(method.getParameterTypes(), method.getExceptionTypes()));
            }
        }
        for (Constructor<?> made : LogWeave.class.getDeclaredConstructors()) {
            Check.same(made + " is public", made.getModifiers(), Modifier.PUBLIC);
            face.add("LogWeave" + listed(made.getParameterTypes(), made.getExceptionTypes()));
        }
        return face;
    }

    private static String listed(Class<?>[] parameters, Class<?>[] exceptions) {
        String text = "(" + names(parameters) + ")";
        return exceptions.length == 0 ? text : text + " throws " + names(exceptions);
    }

    private static String names(Class<?>[] classes) {
        return Arrays.stream(classes).map(Class::getSimpleName).collect(Collectors.joining(", "));
    }

    private static boolean isPrivate(Member member) {
        return Modifier.isPrivate(member.getModifiers());
    }

    private static boolean isPlain(Field field) {
        return Modifier.isFinal(field.getModifiers()) || !Modifier.isStatic(field.getModifiers());
    }

    private static void namesOfPrivateMethods() {
        Set<String> open = new TreeSet<>();
        List<String> closed = new ArrayList<>();
        for (Method method : LogWeave.class.getDeclaredMethods()) {
            if (isPrivate(method)) {
                closed.add(method.getName());
            } else {
                open.add(method.getName());
            }
        }
        for (Class<?> inside : LogWeave.class.getDeclaredClasses()) {
            Check.same(inside + " is static", Modifier.isStatic(inside.getModifiers()), true);
            for (Method method : inside.getDeclaredMethods()) {
                closed.add(method.getName());
            }
        }
        for (String name : closed) {
            Check.same(name + " is the name of a public method", open.contains(name), false);
        }
    }
}
