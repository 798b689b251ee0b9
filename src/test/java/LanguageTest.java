import java.io.IOException;
import java.nio.file.Files;
import java.nio.file.Path;
import java.util.regex.Matcher;
import java.util.regex.Pattern;

/** The rules of ../shared/LANGUAGE.md that can be read off the text of the program. */
public final class LanguageTest {
    private static final Path PROGRAM = Path.of("src/main/java/RegionNets.java");
    private static final String[] RULED_OUT = {
        "\\bpackage\\b", "\\bimport\\b", "->", "::", "\\btry\\b", "\\bcatch\\b", "\\bfinally\\b",
        "\\bsynchronized\\b", "\\bassert\\b", "\\bprotected\\b", "\\bMath\\b", "\\w+Exact\\b",
        "\\bwhile\\s*\\(\\s*true", "\\bSystem\\b", "\\bRandom\\b", "\\bThread\\b",
    };

    public static void main(String[] args) throws IOException {
        Due due = new Due("LanguageTest");
        String source = Files.readString(PROGRAM);
        for (int i = 0; i < source.length(); i++) {
            if (source.charAt(i) > 126) {
                due.tell("a sign above 126 at " + i);
            }
        }
        String bare = source.replaceAll("\"[^\"\n]*\"", "\"\"")
            .replaceAll("(?s)/\\*.*?\\*/", " ").replaceAll("//[^\n]*", " ");
        for (String pattern : RULED_OUT) {
            due.is("\"" + pattern + "\" stands in the program", Pattern.compile(pattern).matcher(bare).find(), false);
        }
        lookAtNews(due, bare);
        lookAtLengths(due, bare);
        due.end();
    }

    // All calls of a run share one room: nothing is made but in constructors, and exceptions.
    private static void lookAtNews(Due due, String bare) {
        Matcher news = Pattern.compile("(\\w+|=|\\S)\\s*\\bnew\\s+(\\w+)").matcher(bare);
        while (news.find()) {
            String made = news.group(2);
            boolean thrown = news.group(1).equals("throw") && made.endsWith("Exception");
            boolean part = made.equals("int") || made.equals("Steps") || made.equals("Regions") || made.equals("Net");
            due.is("new " + made + " is an exception or a part of the object", thrown || part, true);
        }
    }

    private static void lookAtLengths(Due due, String bare) {
        int start = -1;
        String[] lines = bare.split("\n");
        for (int i = 0; i < lines.length; i++) {
            if (lines[i].matches(" {4,8}[A-Za-z].*\\) ?.*\\{\\s*")) {
                start = i;
            }
            if (start >= 0 && lines[i].matches(" {4,8}\\}\\s*")) {
                due.is("the method in line " + (start + 1) + " has at most 60 lines", i - start <= 60, true);
                start = -1;
            }
        }
    }
}
