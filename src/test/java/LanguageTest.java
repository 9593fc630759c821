import java.io.IOException;
import java.lang.reflect.Modifier;
import java.nio.file.Files;
import java.nio.file.Path;
import java.util.ArrayList;
import java.util.List;
import java.util.Set;
import java.util.TreeSet;
import java.util.regex.Matcher;
import java.util.regex.Pattern;
import java.util.stream.Stream;

/** What of ../shared/LANGUAGE.md can be seen from the words of the program. */
final class LanguageTest {
    private static final Path PROGRAM = Path.of("src", "main", "java", "Branchyard.java");
    private static final String[] RULED_OUT = {
        "->", "::", "\\bvar\\b", "\\btry\\b", "\\bcatch\\b", "\\bfinally\\b", "\\bsynchronized\\b", "\\bassert\\b",
        "\\bpackage\\b", "\\bprotected\\b", "\\bvolatile\\b", "\\bnative\\b", "\\binstanceof\\b", "@",
        "Exact\\(", "\\bSystem\\.(?!arraycopy\\()", "\\bArrays\\.(?!(fill|copyOf)\\()", "\\bThread\\b", "\\brandom",
        "\\b(hashCode|toString|equals)\\(", "\\bstatic \\{", "\\bwhile\\b", "\\bdo\\b", "[^\\x00-\\x7f]"
    };

    public static void main(String[] args) throws IOException {
        Check c = new Check("LanguageTest");
        List<String> lines = Files.readAllLines(PROGRAM);
        String code = withoutComments(lines);
        for (String word : RULED_OUT) {
            c.due("ruled out: " + word, "[]", () -> all(Pattern.compile(word), code));
        }
        c.due("imports", "[import java.util.Arrays;, import java.util.NoSuchElementException;]",
                () -> all(Pattern.compile("import [^;]*;"), code));
        c.due("throws of written texts alone", true, () -> count("throw ", code)
                == count("throw new (NoSuchElement|IndexOutOfBounds|IllegalArgument|IllegalState|"
                + "UnsupportedOperation|Arithmetic)(Exception|OperationException)\\(\"[^\"]*\"\\);", code));
        c.due("texts stand in throws alone", true, () -> count("\"[^\"]*\"", code) == count("throw ", code));
        c.due("some twelve classes at most", true, () -> count("\\bclass ", code) <= 12);
        statics(c, code);
        fields(c);
        methods(c, lines);
        c.end();
    }

    /** No state is shared between rooms: what is static is a method, a class, or a constant's number. */
    private static void statics(Check c, String code) {
        String rest = code.replaceAll("static final (int|long|char) [A-Z_]+ = (-?\\w+|'.');", "");
        c.due("static and final", "[]", () -> all(Pattern.compile("static final (?!class ).*"), rest));
        c.due("static and not final", "[]", () -> all(Pattern.compile("static (?!final )[^(]*[;=].*"), rest));
    }

    /** Beside its constants, a class has some twenty fields. */
    private static void fields(Check c) {
        List<Class<?>> classes = new ArrayList<>(List.of(Branchyard.class.getDeclaredClasses()));
        classes.add(Branchyard.class);
        for (Class<?> type : classes) {
            long count = Stream.of(type.getDeclaredFields())
                    .filter(field -> !Modifier.isStatic(field.getModifiers())).count();
            c.due("fields of " + type.getSimpleName(), true, () -> count > 0 && count <= 20);
        }
    }

    private static String withoutComments(List<String> lines) {
        return String.join("\n", lines).replaceAll("(?s)/\\*.*?\\*/", "").replaceAll("//[^\n]*", "");
    }

    private static Set<String> all(Pattern pattern, String code) {
        Set<String> found = new TreeSet<>();
        Matcher matcher = pattern.matcher(code);
        while (matcher.find()) {
            found.add(matcher.group());
        }
        return found;
    }

    private static long count(String pattern, String code) {
        return Pattern.compile(pattern).matcher(code).results().count();
    }

    /** A method ends at the brace that stands as far in as its first line. */
    private static void methods(Check c, List<String> lines) {
        Pattern head = Pattern.compile("( +)(public|private)[^=;]*\\(([^)]*)\\)[^;]*\\{");
        for (int i = 0; i < lines.size(); i++) {
            Matcher matcher = head.matcher(lines.get(i));
            if (!matcher.matches()) {
                continue;
            }
            String name = lines.get(i).trim();
            String end = matcher.group(1) + "}";
            int length = lines.subList(i, lines.size()).indexOf(end);
            c.due(name + " has an end", true, () -> length > 0);
            c.due(name + " is short", true, () -> length <= 40);
            c.due(name + " has few parameters", true, () -> matcher.group(3).split(",").length <= 7);
        }
    }
}
