import java.io.IOException;
import java.lang.reflect.Constructor;
import java.lang.reflect.Field;
import java.lang.reflect.Method;
import java.lang.reflect.Modifier;
import java.nio.file.Files;
import java.nio.file.Path;
import java.util.Set;
import java.util.TreeSet;

/** The class has the document's face and no more: the signatures are read from ../shared/DOC.md. */
final class FaceTest {
    private static final Path DOCUMENT = Path.of("..", "shared", "DOC.md");

    public static void main(String[] args) throws IOException {
        Check c = new Check("FaceTest");
        Set<String> due = new TreeSet<>();
        Set<String> names = new TreeSet<>();
        for (String line : Files.readAllLines(DOCUMENT)) {
            String signature = line.trim();
            if (signature.startsWith("public ") && signature.endsWith(";")) {
                due.add(withoutParameterNames(signature));
            }
        }
        Set<String> got = new TreeSet<>();
        for (Constructor<?> made : Branchyard.class.getDeclaredConstructors()) {
            got.add(signature(made.getModifiers(), "Branchyard", made.getParameterTypes(), made.getExceptionTypes()));
        }
        for (Method method : Branchyard.class.getDeclaredMethods()) {
            if (!Modifier.isPrivate(method.getModifiers())) {
                String name = method.getReturnType().getSimpleName() + " " + method.getName();
                got.add(signature(method.getModifiers(), name, method.getParameterTypes(), method.getExceptionTypes()));
                names.add(method.getName());
            }
        }
        c.due("the face", due, () -> got);
        c.due("the document's face was read", 34, due::size);
        c.due("the class", "public final", () -> Modifier.toString(Branchyard.class.getModifiers()));
        privateMembers(c, names);
        c.end();
    }

    private static void privateMembers(Check c, Set<String> names) {
        for (Method method : Branchyard.class.getDeclaredMethods()) {
            if (Modifier.isPrivate(method.getModifiers())) {
                c.due(method.getName() + " is a name of the face", false, () -> names.contains(method.getName()));
            }
        }
        for (Field field : Branchyard.class.getDeclaredFields()) {
            c.due(field.getName() + " is private", true, () -> Modifier.isPrivate(field.getModifiers()));
            boolean isStatic = Modifier.isStatic(field.getModifiers());
            c.due(field.getName() + " is final, if static", true,
                    () -> !isStatic || Modifier.isFinal(field.getModifiers()));
        }
        for (Class<?> inner : Branchyard.class.getDeclaredClasses()) {
            int modifiers = inner.getModifiers();
            c.due(inner.getName() + " is static", true, () -> Modifier.isStatic(modifiers));
            c.due(inner.getName() + " is not for others", false,
                    () -> Modifier.isPublic(modifiers) || Modifier.isProtected(modifiers));
            for (Method method : inner.getDeclaredMethods()) {
                c.due(inner.getName() + "." + method.getName() + " is a name of the face", false,
                        () -> names.contains(method.getName()));
            }
        }
    }

    private static String withoutParameterNames(String signature) {
        return signature.replaceAll("(int|boolean|long|char) \\w+([,)])", "$1$2").replace(";", "");
    }

    private static String signature(int modifiers, String name, Class<?>[] parameters, Class<?>[] exceptions) {
        String text = Modifier.toString(modifiers) + " " + name + "(" + listed(parameters) + ")";
        return exceptions.length == 0 ? text : text + " throws " + listed(exceptions);
    }

    private static String listed(Class<?>[] types) {
        StringBuilder text = new StringBuilder();
        for (Class<?> type : types) {
            text.append(text.length() == 0 ? "" : ", ").append(type.getSimpleName());
        }
        return text.toString();
    }
}
