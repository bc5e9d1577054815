import java.io.IOException;
import java.nio.file.Files;
import java.nio.file.Path;
import java.util.regex.Matcher;
import java.util.regex.Pattern;

/** The rules of LANGUAGE.md that can be seen in the text of the class. */
public final class LanguageTest {
    private static final String FILE = "src/main/java/ProcessorHouse.java";

    /** Each a rule's number and a pattern that the code must not have. */
    private static final String[][] REFUSED = {
        {"2", "->"}, {"2", "::"}, {"3", "\\b(double|float)\\b"}, {"3", "\\[\\]\\[\\]"},
        {"4", "\\w+Exact\\b"}, {"4", "\\bMap\\b|\\bSet\\b|\\bstream\\b|\\bSystem\\.(?!arraycopy)\\w+"},
        {"5", "\\bstatic\\s*\\{"},
        {"6", "\\b(try|catch|finally|assert|synchronized)\\b"},
        {"6", "\\bthrow\\s+(?!new (IllegalState|IllegalArgument|IndexOutOfBounds|UnsupportedOperation)Exception\\()"},
        {"6", "\\b(equals|hashCode|toString)\\b"},
        {"9", "\\bwhile\\s*\\(\\s*true\\b|for\\s*\\(\\s*;\\s*;"},
        {"13", "\\b(Random|Thread|currentTimeMillis|nanoTime|java\\.io|java\\.nio)\\b"},
    };

    public static void main(String[] args) throws IOException {
        Check check = new Check();
        String text = Files.readString(Path.of(FILE));
        String code = text.replaceAll("(?s)/\\*.*?\\*/", "").replaceAll("//[^\n]*", "")
                .replaceAll("\"[^\"\n]*\"", "\"\"");
        for (String[] refused : REFUSED) {
            Matcher found = Pattern.compile(refused[1]).matcher(code);
            if (found.find()) {
                check.tell("rule " + refused[0] + ": '" + found.group() + "' stands in the class");
            }
        }
        Matcher imports = Pattern.compile("(?m)^import\\s+(.*);").matcher(code);
        while (imports.find()) {
            if (!imports.group(1).matches("java\\.util\\.(Arrays|ArrayList|List)")) {
                check.tell("rule 4: import of " + imports.group(1));
            }
        }
        Matcher classes = Pattern.compile("\\b(class|enum|record|interface)\\s+\\w+").matcher(code);
        int count = 0;
        while (classes.find()) {
            count++;
        }
        check.due("at most twelve classes", 1, count <= 12 ? 1 : 0);
        check.due("no package line", 0, code.contains("package ") ? 1 : 0);
        check.done();
    }
}
