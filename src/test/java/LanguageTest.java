import java.io.IOException;
import java.nio.file.Files;
import java.nio.file.Path;
import java.util.List;
import java.util.Set;
import java.util.TreeSet;
import java.util.regex.Matcher;
import java.util.regex.Pattern;

/**
 * The rules of LANGUAGE.md that can be seen in the program's text; the others need a reader. Where
 * the program uses less than a rule allows, that less is asked for: more of it is to be looked at.
 */
public final class LanguageTest {
    private static final Path PROGRAM = Path.of("src/main/java/DataTree.java");
    private static final int MOST_LINES = 60;
    private static final int MOST_PARAMETERS = 7;
    private static final int MOST_CLASSES = 12;
    private static final int MOST_FIELDS = 20;

    /** What the rules forbid, or the program has no need of (a try, an import). */
    private static final String[] FORBIDDEN = {
        "\\bpackage\\b", "\\bimport\\b", "\\bsynchronized\\b", "\\bassert\\b", "\\bfinally\\b", "\\btry\\b",
        "\\bcatch\\b", "\\bvolatile\\b", "\\bnative\\b", "\\btransient\\b", "\\bprotected\\b", "->", "::",
        "\\bstatic\\s*\\{", "\\w+Exact\\b", "\\bdouble\\b", "\\bfloat\\b", "\\bequals\\b", "\\bhashCode\\b",
        "\\btoString\\b", "\\bThread\\b", "\\bRuntime\\b", "\\bnanoTime\\b", "\\bcurrentTimeMillis\\b",
    };
    private static final Set<String> LIBRARY = Set.of("Math.max", "Math.min", "Integer.compare", "System.arraycopy");
    private static final Set<String> THROWN = Set.of("IndexOutOfBoundsException", "IllegalArgumentException");
    private static final Pattern METHOD = Pattern.compile("( +)(?:[\\w\\[\\]]+ )*[\\w\\[\\]]+\\((.*)\\).* \\{");
    private static final Pattern CLASS = Pattern.compile("( *)(?:\\w+ )*class (\\w+) \\{");
    private static final Pattern FIELD = Pattern.compile(" +private (?!static )[^(]*;");

    public static void main(String[] args) throws IOException {
        String bare = withoutComments(Files.readString(PROGRAM));
        forbidden(bare);
        library(bare);
        exceptions(bare);
        staticFields(bare);
        classes(bare);
        methods(List.of(bare.split("\n")));
        Check.end();
    }

    private static String withoutComments(String text) {
        return text.replaceAll("(?s)/\\*.*?\\*/", "").replaceAll("//[^\n]*", "");
    }

    private static void forbidden(String bare) {
        for (String word : FORBIDDEN) {
            Matcher m = Pattern.compile(word).matcher(bare);
            Check.no("forbidden: " + word, m.find());
        }
    }

    /** Rule 4: a name with a capital before a dot is one of the library's. */
    private static void library(String bare) {
        Set<String> seen = new TreeSet<>();
        Matcher m = Pattern.compile("\\b[A-Z]\\w*\\.\\w+").matcher(bare);
        while (m.find()) {
            seen.add(m.group());
        }
        Check.yes("the library is seen", !seen.isEmpty());
        for (String name : seen) {
            Check.yes(name + " is among what is used of rule 4", LIBRARY.contains(name));
        }
    }

    /** Rule 6: a new exception with a written text, of a class that the document names, in its four places. */
    private static void exceptions(String bare) {
        Matcher m = Pattern.compile("\\bthrow\\b(?: new (\\w+)\\(\"[^\"]*\"\\);)?").matcher(bare);
        int seen = 0;
        while (m.find()) {
            Check.yes(m.group(), m.group(1) != null && THROWN.contains(m.group(1)));
            seen++;
        }
        Check.due("throws", seen, 4);
    }

    /** Rule 5: static fields are final; the program's are single numbers. */
    private static void staticFields(String bare) {
        Matcher m = Pattern.compile("\n *((?:public|private) static [^(\n]*) = [^;]*;").matcher(bare);
        int seen = 0;
        while (m.find()) {
            Check.yes(m.group(1), m.group(1).matches("(public|private) static final (int|long|boolean) [A-Z_]+"));
            seen++;
        }
        Check.yes("static fields are seen", seen > 0);
    }

    /** Rule 11, of classes and of their fields beside the constants. */
    private static void classes(String bare) {
        int seen = 0;
        int fields = 0;
        for (String line : bare.split("\n")) {
            if (CLASS.matcher(line).matches()) {
                seen++;
                fields = 0;
            }
            fields += FIELD.matcher(line).matches() ? 1 : 0;
            Check.yes("fields of a class up to: " + line, fields <= MOST_FIELDS);
        }
        Check.yes(seen + " classes", seen > 1 && seen <= MOST_CLASSES);
    }

    /** Rule 11, of methods: they end at the line that has the same indent and a brace alone. */
    private static void methods(List<String> lines) {
        int seen = 0;
        for (int n = 0; n < lines.size(); n++) {
            Matcher m = METHOD.matcher(lines.get(n));
            if (!m.matches() || lines.get(n).matches(" *(if|for|while|switch|\\}).*")) {
                continue;
            }
            int length = lines.subList(n, lines.size()).indexOf(m.group(1) + "}") + 1;
            Check.yes(lines.get(n) + " has " + length + " lines", length > 1 && length <= MOST_LINES);
            Check.yes(lines.get(n) + ": parameters", m.group(2).split(",").length <= MOST_PARAMETERS);
            seen++;
        }
        Check.yes(seen + " methods are seen", seen >= 22);
    }
}
