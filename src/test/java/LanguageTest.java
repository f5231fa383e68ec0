import java.io.IOException;
import java.nio.file.Files;
import java.nio.file.Path;
import java.util.ArrayDeque;
import java.util.Deque;
import java.util.HashSet;
import java.util.List;
import java.util.Set;
import java.util.regex.Matcher;
import java.util.regex.Pattern;

/** The rules of ../shared/LANGUAGE.md, as far as the words of the source tell whether they are kept. */
public final class LanguageTest {
    private static final Due due = new Due("LanguageTest");

    private static final String[] BANNED = {
        "\\bpackage\\b", "->", "::", "\\btry\\b", "\\bcatch\\b", "\\bfinally\\b", "\\bsynchronized\\b", "\\bassert\\b",
        "\\binstanceof\\b", "\\brecord\\b", "\\byield\\b", "\\bvar\\b",
        "\\bstatic\\s*\\{", "\\bwhile\\s*\\(\\s*true\\b", "for\\s*\\(\\s*;", "\\w+Exact\\b", "\\bThread\\b",
        "\\bObject\\b", "\\b(long|int|char|boolean|double|float)\\[\\]\\[\\]\\[\\]", "\\bequals\\b", "\\bhashCode\\b",
        "\\btoString\\b", "\"\\s*\\+", "\\+\\s*\"", "\\bprotected\\b", "\\bvolatile\\b", "\\btransient\\b",
        "\\bnative\\b", "\\bRandom\\b", "\\bjava\\.(?!util\\.Arrays;)",
    };
    private static final Set<String> LIBRARY = Set.of("Arrays.fill", "Math.abs", "Math.max", "Math.min");
    private static final Set<String> EXCEPTIONS = Set.of("IllegalStateException", "IllegalArgumentException",
            "IndexOutOfBoundsException");

    public static void main(String[] args) throws IOException {
        String source = Files.readString(Path.of(args[0]));
        due.holds("all signs are 1 to 127", source.chars().allMatch(sign -> sign > 0 && sign < 128));
        String code = withoutComments(source);
        bannedWords(code);
        library(code);
        exceptions(code);
        newObjects(code);
        methods(code);
        staticFields(code);
        noFillOfBooleans(code);
        due.end();
    }

    /** Comments go, and each text is emptied, but lines stay where they were. */
    private static String withoutComments(String source) {
        String plain = Pattern.compile("/\\*.*?\\*/", Pattern.DOTALL).matcher(source).replaceAll("");
        return plain.replaceAll("//[^\n]*", "").replaceAll("\"[^\"\n]*\"", "\"\"");
    }

    private static void bannedWords(String code) {
        for (String banned : BANNED) {
            Matcher matcher = Pattern.compile(banned).matcher(code);
            due.holds("'" + banned + "' stands nowhere", !matcher.find());
        }
        due.answers("the number of public classes", 1, matches(code, "public (static |final |abstract )*class"));
        due.holds("there are at most twelve classes", matches(code, "\\b(class|enum|interface)\\s+\\w+") <= 12);
    }

    private static int matches(String code, String pattern) {
        return (int) Pattern.compile(pattern).matcher(code).results().count();
    }

    private static void library(String code) {
        Matcher matcher = Pattern.compile("\\b(Arrays|Math|Integer|Long|Character|String)\\.(\\w+)").matcher(code);
        while (matcher.find()) {
            due.holds(matcher.group() + " is a call that is used", LIBRARY.contains(matcher.group()));
        }
        Matcher system = Pattern.compile("\\bSystem\\.(\\w+)").matcher(code);
        while (system.find()) {
            due.tells("a call of System", "arraycopy", system.group(1));
        }
    }

    private static void exceptions(String code) {
        Matcher matcher = Pattern.compile("\\bthrow\\s+([^;]*);").matcher(code);
        int throwsSeen = 0;
        while (matcher.find()) {
            throwsSeen++;
            Matcher made = Pattern.compile("new (\\w+)\\(\"\"\\)").matcher(matcher.group(1));
            due.holds("'" + matcher.group(1) + "' is a new exception with a written text",
                    made.matches() && EXCEPTIONS.contains(made.group(1)));
        }
        due.holds("some exceptions are thrown", throwsSeen > 0);
    }

    /** Rows are made with the object that has them: no call of the face makes anything but an exception. */
    private static void newObjects(String code) {
        for (String line : code.split("\n")) {
            if (!line.matches(".*\\bnew\\b.*") || line.contains("throw new ")) {
                continue;
            }
            boolean isField = line.matches("\\s+private final [\\w\\[\\]]+ \\w+ = new [\\w\\[\\]()]+;");
            boolean isElement = line.matches("\\s+\\w+\\[\\w+\\] = new \\w+\\(\\);");
            due.holds("'" + line.strip() + "' is made with its object", isField || isElement);
        }
    }

    private static void methods(String code) {
        Deque<Integer> open = new ArrayDeque<>();
        String[] lines = code.split("\n");
        Pattern head = Pattern.compile("^\\s+(?!.*\\b(new|return|else|class|switch|for|if|while)\\b)"
                + "(\\w+ )*[\\w\\[\\]]+ \\w+\\(([^)]*)\\).*");
        int methods = 0;
        for (int line = 0; line < lines.length; line++) {
            Matcher matcher = head.matcher(lines[line]);
            if (open.size() <= 2 && matcher.matches() && !lines[line].contains("=")) {
                methods++;
                due.holds("at most seven parameters in line " + (line + 1), matcher.group(3).split(",").length <= 7);
            }
            for (char sign : lines[line].toCharArray()) {
                if (sign == '{') {
                    open.push(line);
                } else if (sign == '}') {
                    int start = open.pop();
                    boolean isClass = lines[start].contains(" class ");
                    due.holds("the block of line " + (start + 1) + " is short", isClass || line - start < 60);
                }
            }
        }
        due.holds("the methods are found", methods > 33);
    }

    private static void staticFields(String code) {
        Set<String> names = new HashSet<>(List.of("int", "long", "boolean", "char", "String", "int[]"));
        Matcher matcher = Pattern.compile("\\bstatic ([\\w\\[\\] ]+) (\\w+) =").matcher(code);
        while (matcher.find()) {
            String type = matcher.group(1).replace("final ", "");
            due.holds(matcher.group(2) + " is final", matcher.group(1).contains("final"));
            due.holds(matcher.group(2) + " is of a type for constants", names.contains(type));
        }
    }

    /** Arrays.fill is for arrays of numbers. */
    private static void noFillOfBooleans(String code) {
        Matcher matcher = Pattern.compile("Arrays\\.fill\\((\\w+)").matcher(code);
        while (matcher.find()) {
            due.holds(matcher.group() + " fills numbers",
                    matches(code, "\\b(boolean|[A-Z]\\w*)\\[\\] " + matcher.group(1) + "\\b") == 0);
        }
    }
}
