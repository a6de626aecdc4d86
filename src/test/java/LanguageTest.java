import java.io.IOException;
import java.nio.file.Files;
import java.nio.file.Path;
import java.util.List;
import java.util.Set;
import java.util.TreeSet;
import java.util.regex.Matcher;
import java.util.regex.Pattern;

/** What can be told of LANGUAGE.md from the text of the program alone; the rest is for the reader. */
public final class LanguageTest {
    private static final Path PROGRAM = Path.of("src/main/java/FleetFloor.java");
    private static final int LONGEST_METHOD = 60;

    private static final String[] RULED_OUT = {
        "->", "::", "\\bfinally\\b", "\\bsynchronized\\b", "\\bassert\\b", "\\bvolatile\\b", "\\btry\\b",
        "\\bpackage\\b", "\\bnative\\b", "\\btransient\\b", "\\bSystem\\.(?!arraycopy\\b)", "\\bThread\\b",
        "\\bRandom\\b", "\\.equals\\(", "\\bhashCode\\b", "\\btoString\\b", "\\bgetClass\\b", "\\w+Exact\\(",
        "\\bdouble\\b", "\\bfloat\\b", "\\bstatic \\{", "\\bprotected\\b", "\\bvar\\b", "[^\\x00-\\x7F]"};

    /** Of the library's methods these alone are called; each stands in rule 4. */
    private static final Set<String> LIBRARY = Set.of("add", "get", "remove", "size", "max");

    private LanguageTest() {
    }

    public static void main(String[] args) throws IOException {
        List<String> lines = Files.readAllLines(PROGRAM);
        for (String line : lines) {
            String code = withoutComment(line);
            for (String ruledOut : RULED_OUT) {
                Check.due(ruledOut + " in: " + line.trim(), Pattern.compile(ruledOut).matcher(code).find(), false);
            }
            if (code.startsWith("import ")) {
                Check.due(code, code.matches("import java\\.util\\.(ArrayList|List|Arrays);"), true);
            }
            exceptions(code);
        }
        methodLengths(lines);
        library(String.join("\n", lines));
        Check.end();
    }

    private static String withoutComment(String line) {
        String trimmed = line.trim();
        if (trimmed.startsWith("/*") || trimmed.startsWith("*")) {
            return "";
        }
        return line;
    }

    private static void library(String program) {
        Set<String> own = new TreeSet<>();
        Matcher declared = Pattern.compile("(?m)^ +[\\w <>\\[\\]]+ (\\w+)\\(.*\\{$").matcher(program);
        while (declared.find()) {
            own.add(declared.group(1));
        }
        Matcher records = Pattern.compile("record \\w+\\((.*)\\)").matcher(program);
        while (records.find()) {
            for (String part : records.group(1).split(", ")) {
                own.add(part.substring(part.indexOf(' ') + 1));
            }
        }
        Matcher called = Pattern.compile("\\.(\\w+)\\(").matcher(program);
        while (called.find()) {
            String name = called.group(1);
            Check.due("rule 4: " + name, own.contains(name) || LIBRARY.contains(name), true);
        }
    }

    private static void exceptions(String code) {
        Matcher thrown = Pattern.compile("\\bthrow\\b(.*)").matcher(code);
        if (thrown.find()) {
            Check.due("rule 6: " + code.trim(),
                    thrown.group(1).matches(" new Illegal(State|Argument)Exception\\((\"[^\"]*\")?\\);"), true);
        }
    }

    /** A method begins in a line that ends with ") {" or a throws clause, and ends at the same indent. */
    private static void methodLengths(List<String> lines) {
        Pattern head = Pattern.compile("^( {4}| {8})[A-Za-z].*\\)( throws [\\w, ]+)? \\{$");
        for (int begin = 0; begin < lines.size(); begin++) {
            Matcher found = head.matcher(lines.get(begin));
            if (found.find()) {
                int end = begin;
                while (!lines.get(end).equals(found.group(1) + "}")) {
                    end++;
                }
                Check.due("rule 11: " + lines.get(begin).trim(), end - begin < LONGEST_METHOD, true);
            }
        }
    }
}
