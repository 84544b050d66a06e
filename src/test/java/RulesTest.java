import java.io.IOException;
import java.nio.charset.StandardCharsets;
import java.nio.file.Files;
import java.nio.file.Path;
import java.util.regex.Matcher;
import java.util.regex.Pattern;

/** What of ../shared/LANGUAGE.md can be seen in the text of the class; it is run at the project's root. */
public final class RulesTest {
    private static final String[] FORBIDDEN = {
        "\\bimport\\b", "\\bpackage\\b", "->", "::", "\\bfinally\\b", "\\bsynchronized\\b", "\\bassert\\b",
        "\\bcatch\\b", "\\btry\\b", "\\bMath\\.\\w+Exact\\b", "\\bvar\\b", "\\bThread\\b", "\\bRandom\\b",
        "\\bSystem\\.(?!arraycopy)", "static\\s*\\{", "\\bhashCode\\b", "\\btoString\\b", "\\bprotected\\b",
        "\\bString\\.format\\b", "\\bLong\\.parse", "\\bgetMessage\\b", "@\\w+", "\\bnull\\b", "while\\s*\\(\\s*true",
    };
    private static final int LONGEST = 60;

    public static void main(String[] args) throws IOException {
        String text = Files.readString(Path.of("src/main/java/PortolanHall.java"), StandardCharsets.ISO_8859_1);
        String code = withoutComments(text);
        for (String forbidden : FORBIDDEN) {
            Matcher found = Pattern.compile(forbidden).matcher(code);
            Check.yes("the class does without " + forbidden, !found.find());
        }
        Check.yes("all signs are plain", text.chars().allMatch(sign -> sign < 128));
        Check.yes("no method is long", longest(code) <= LONGEST);
        Check.end("RulesTest");
    }

    private static String withoutComments(String text) {
        return text.replaceAll("(?s)/\\*.*?\\*/", "").replaceAll("//[^\n]*", "").replaceAll("\"[^\"\n]*\"", "\"\"");
    }

    /** A method of the class opens and closes at four blanks, one of a class inside at eight. */
    private static int longest(String code) {
        int longest = 0;
        int opened = -1;
        String[] lines = code.split("\n");
        for (int i = 0; i < lines.length; i++) {
            if (lines[i].matches(" {4}( {4})?\\S.*\\(.*") && !lines[i].endsWith(";")) {
                opened = i;
            }
            if (opened >= 0 && lines[i].matches(" {4}( {4})?\\}")) {
                longest = Math.max(longest, i - opened + 1);
            }
        }
        return longest;
    }
}
