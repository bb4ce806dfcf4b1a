import java.io.IOException;
import java.nio.file.Files;
import java.nio.file.Path;
import java.util.regex.Matcher;
import java.util.regex.Pattern;

/** What a reader of the text alone can see of ../shared/LANGUAGE.md in the class; the tests run in the checkout. */
final class LanguageTest {
    private static final Due DUE = new Due();
    private static final Pattern METHOD =
        Pattern.compile("(?m)^( +)(?:public|private) (static )?(?:\\w+ )?(\\w+)\\(([^)]*)\\) \\{$");

    public static void main(String[] args) throws IOException {
        String text = Files.readString(Path.of("src/main/java/EarChart.java"));
        String code = text.replaceAll("(?s)/\\*.*?\\*/", "").replaceAll("//[^\n]*", "");
        words(code);
        library(code);
        classes(code);
        methods(code);
        DUE.end();
    }

    private static void hasNo(String rule, String code, String pattern) {
        DUE.promise("LANGUAGE.md, rule " + rule);
        Matcher found = Pattern.compile(pattern).matcher(code);
        DUE.is("no '" + pattern + "'", found.find(), false);
    }

    private static void words(String code) {
        hasNo("the one file", code, "\\b(package|import)\\b");
        hasNo("1", code, "\\bprotected\\b");
        hasNo("2", code, "->|::");
        hasNo("5", code, "\\bstatic \\{");
        hasNo("6", code, "\\b(throw|throws|try|catch|finally|synchronized|assert)\\b");
        hasNo("6", code, "\\b(equals|hashCode|toString)\\b");
        hasNo("9", code, "while \\(true\\)|for \\([^;]*;;|for \\(;");
        hasNo("13", code, "\\b(Thread|Random|File|Runtime)\\b|nanoTime|currentTimeMillis");
    }

    private static void library(String code) {
        hasNo("4", code.replaceAll("\\bMath\\.(min|max|abs)\\(|\\bSystem\\.arraycopy\\(", ""),
            "\\b(Math|System|Integer|Long|String|Arrays|List|ArrayList|Object|Character|Boolean)\\b|\\bjava\\b");
        hasNo("12, and a run's room: what is made is made with the object",
            code.replaceAll("(?s)    public EarChart\\(\\) \\{.*?\n    \\}\n", "").replaceAll("(?m)^.*private final .*$", ""),
            "\\bnew\\b");
    }

    private static void classes(String code) {
        DUE.promise("LANGUAGE.md, rules 2 and 11");
        Matcher found = Pattern.compile("(?m)^ +(.*)\\b(?:class|record|enum|interface) \\w+ \\{$").matcher(code);
        int count = 1;
        for (; found.find(); count++) {
            DUE.is(found.group() + " is private and static", found.group(1).startsWith("private static "), true);
        }
        DUE.is("at most twelve classes", count <= 12, true);
    }

    private static void methods(String code) {
        Matcher found = METHOD.matcher(code);
        int count = 0;
        for (; found.find(); count++) {
            int end = code.indexOf("\n" + found.group(1) + "}\n", found.end());
            String body = code.substring(found.end(), end);
            String name = found.group(3);
            DUE.promise("LANGUAGE.md, rule 11");
            DUE.is(name + " is short", body.lines().count() <= 60, true);
            DUE.is(name + " takes seven at most", found.group(4).split(",").length <= 7, true);
            DUE.promise("LANGUAGE.md, rule 8");
            boolean callsItself = Pattern.compile("(?<![.\\w])" + name + "\\(").matcher(body).find();
            DUE.is(name + " calls itself without being static", callsItself && found.group(2) == null, false);
        }
        DUE.promise("LANGUAGE.md");
        DUE.is("all methods were looked at", count >= 29, true);
    }
}
