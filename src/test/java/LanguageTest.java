import java.io.IOException;
import java.nio.file.Files;
import java.nio.file.Path;
import java.util.regex.Matcher;
import java.util.regex.Pattern;

/** Those rules of LANGUAGE.md that the text of the class shows; to be run in the project's root. */
public final class LanguageTest {
    private static final String[] FORBIDDEN = {
        "->", "::", "\\bpackage\\b", "\\bimport (?!java\\.util\\.Arrays;)", "\\btry\\b", "\\bcatch\\b", "\\bfinally\\b",
        "\\bsynchronized\\b", "\\bassert\\b", "\\binstanceof\\b", "\\bprotected\\b", "\\bnative\\b", "\\bvolatile\\b",
        "\\bstatic \\{", "\\bSystem\\.(?!arraycopy)", "\\bMath\\.\\w+Exact\\b", "\\bdouble\\b", "\\bnull\\b",
        "\\bwhile \\(true\\)", "\\[\\]\\[\\]\\[\\]",
        "throw new (?!(IndexOutOfBounds|IllegalArgument|IllegalState)Exception\\(\"[^\"]*\"\\);)",
        "private static (?!final\\b)[\\w\\[\\]]+ \\w+( =|;)",
    };
    private static final String[] FACE = {
        "station", "train", "stop", "patience", "late", "coach", "part", "takeOut", "book", "leave", "swap", "arrives",
        "leaves", "leavesAnew", "behind", "sheet", "coachOf", "owes", "homes", "best", "personOf", "sleeper", "holds",
        "paid",
    };

    private static int count(String text, String pattern) {
        Matcher matcher = Pattern.compile(pattern).matcher(text);
        int count = 0;
        while (matcher.find()) {
            count++;
        }
        return count;
    }

    public static void main(String[] args) throws IOException {
        Check check = new Check("LanguageTest");
        String source = Files.readString(Path.of("src/main/java/Throughcoach.java"));
        String code = source.replaceAll("(?s)/\\*.*?\\*/", "").replaceAll("//[^\n]*", "");
        for (String pattern : FORBIDDEN) {
            check.due("how often there is " + pattern, 0, () -> count(code, pattern));
        }
        for (String name : FACE) {
            String told = "\\n +(public |private |static |final )*[\\w\\[\\]]+ (?<!(return|new|else) )" + name + "\\(";
            check.due("how often a method is named " + name, 1, () -> count(code, told));
        }
        check.due("at most twelve classes", true, () -> count(code, "\\bclass \\w+ \\{") <= 12);
        check.due("signs up to 127", true, () -> source.chars().allMatch(sign -> sign < 128));
        check.end();
    }
}
