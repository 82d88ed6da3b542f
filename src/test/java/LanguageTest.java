import java.io.IOException;
import java.nio.file.Files;
import java.nio.file.Path;
import java.util.regex.Matcher;
import java.util.regex.Pattern;

/** Those rules of LANGUAGE.md that the program's text shows; the others are for a reader. */
public final class LanguageTest {
    private static final Due due = new Due();

    public static void main(String[] args) throws IOException {
        String program = Files.readString(Path.of("src/main/java/SureMendings.java"));
        String code = withoutComments(program);
        absent(code, "rule 1, a package", "\\bpackage\\b");
        absent(code, "rule 2, lambdas and method references", "->|::");
        absent(code, "rule 2, inner classes that are not static", "(?<!static )(?<!static final )(?<!public final )\\bclass\\b");
        absent(code, "rule 4, imports beside the library", "import (?!java\\.util\\.(Arrays|ArrayList|List|Iterator);)");
        absent(code, "rule 4, functions that throw", "\\w+Exact\\b");
        absent(code, "rule 5, static fields that are not final", "\\bstatic (?!final\\b)[^(;{]*[;=]");
        absent(code, "rule 5, static blocks", "\\bstatic\\s*\\{");
        absent(code, "rule 6", "\\b(throw|throws|try|catch|finally|synchronized|assert|hashCode|equals|toString)\\b");
        absent(code, "rule 9, loops without an end", "while \\(true\\)|for \\(;;\\)");
        absent(code, "rule 10, texts that are joined by +", "\"\\s*\\+|\\+\\s*\"");
        absent(code, "rule 13", "\\b(Random|random|nanoTime|currentTimeMillis|File|Thread|System\\.(?!arraycopy))");
        due.is("rule 11, classes inside, at most twelve", Math.max(12, times(code, "\\bclass\\b") - 1), 12);
        due.finish();
    }

    private static String withoutComments(String program) {
        return program.replaceAll("(?s)/\\*.*?\\*/", "").replaceAll("//[^\n]*", "");
    }

    private static void absent(String code, String rule, String pattern) {
        due.is(rule, times(code, pattern), 0);
    }

    private static int times(String code, String pattern) {
        int found = 0;
        Matcher matcher = Pattern.compile(pattern).matcher(code);
        while (matcher.find()) {
            found++;
        }
        return found;
    }
}
