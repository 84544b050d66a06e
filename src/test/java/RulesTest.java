import java.io.IOException;
import java.lang.reflect.Field;
import java.lang.reflect.Method;
import java.lang.reflect.Modifier;
import java.nio.charset.StandardCharsets;
import java.nio.file.Files;
import java.nio.file.Path;
import java.util.ArrayList;
import java.util.LinkedHashMap;
import java.util.List;
import java.util.Map;
import java.util.Set;
import java.util.TreeSet;
import java.util.regex.Matcher;
import java.util.regex.Pattern;

/** What of ../shared/LANGUAGE.md can be seen in the text of the class; it is run at the project's root. */
public final class RulesTest {
    private static final String[] FORBIDDEN = {
        "\\bimport\\b", "\\bpackage\\b", "->", "::", "\\bfinally\\b", "\\bsynchronized\\b", "\\bassert\\b",
        "\\bcatch\\b", "\\btry\\b", "\\bMath\\.\\w+Exact\\b", "\\bvar\\b", "\\bThread\\b", "\\bRandom\\b",
        "\\bSystem\\.(?!arraycopy)", "static\\s*\\{", "\\bhashCode\\b", "\\btoString\\b", "\\bprotected\\b",
        "\\bString\\.format\\b", "\\bLong\\.parse", "\\bgetMessage\\b", "@\\w+", "\\bnull\\b", "while\\s*\\(\\s*true",
    };
    private static final int LONGEST = 60;
    private static final int MOST_PARAMETERS = 7;
    private static final int MOST_FIELDS = 20;
    private static final int DEEPEST = 8;
    private static final int DEEPER_THAN_ALL = 100;

    public static void main(String[] args) throws IOException {
        String text = Files.readString(Path.of("src/main/java/PortolanHall.java"), StandardCharsets.ISO_8859_1);
        String code = withoutComments(text);
        for (String forbidden : FORBIDDEN) {
            Matcher found = Pattern.compile(forbidden).matcher(code);
            Check.yes("the class does without " + forbidden, !found.find());
        }
        Check.yes("all signs are plain", text.chars().allMatch(sign -> sign < 128));
        Check.yes("no method is long", longest(code) <= LONGEST);
        Map<String, Set<String>> calls = calls(code);
        Check.yes("the methods were found", calls.keySet().containsAll(List.of(Calls.NAMES)));
        for (String method : calls.keySet()) {
            Check.yes("no call of " + method + " goes deeper than allowed, or in a ring",
                depth(calls, method, 0) <= DEEPEST);
        }
        List<Class<?>> all = new ArrayList<>(List.of(PortolanHall.class.getDeclaredClasses()));
        all.add(PortolanHall.class);
        for (Class<?> one : all) {
            members(one);
        }
        Check.end("RulesTest");
    }

    private static void members(Class<?> one) {
        int fields = 0;
        for (Field field : one.getDeclaredFields()) {
            boolean isConstant = Modifier.isStatic(field.getModifiers());
            Check.yes(field + " is no static state",
                !isConstant || Modifier.isFinal(field.getModifiers()) && field.getType() == int.class);
            fields += isConstant ? 0 : 1;
        }
        Check.yes(one + " has few fields", fields <= MOST_FIELDS);
        for (Method method : one.getDeclaredMethods()) {
            Check.yes(method + " takes few parameters", method.getParameterCount() <= MOST_PARAMETERS);
        }
    }

    /** The methods, of all classes, and by name alone: what each calls of the others. */
    private static Map<String, Set<String>> calls(String code) {
        Map<String, StringBuilder> bodies = new LinkedHashMap<>();
        StringBuilder body = new StringBuilder();
        for (String line : code.split("\n")) {
            Matcher opens = Pattern.compile(" {4}(?: {4})?(?:[\\w\\[\\]]+ )+(\\w+)\\([^;=]*").matcher(line);
            if (opens.matches() && !line.matches(" *(return|throw|else) .*")) {
                body = bodies.computeIfAbsent(opens.group(1), any -> new StringBuilder());
            } else {
                body.append(line).append('\n');
            }
        }
        Map<String, Set<String>> calls = new LinkedHashMap<>();
        bodies.forEach((method, text) -> {
            Set<String> called = new TreeSet<>();
            Matcher call = Pattern.compile("(?<!new )\\b(\\w+)\\(").matcher(text);
            while (call.find()) {
                if (bodies.containsKey(call.group(1))) {
                    called.add(call.group(1));
                }
            }
            calls.put(method, called);
        });
        return calls;
    }

    private static int depth(Map<String, Set<String>> calls, String method, int above) {
        if (above > DEEPEST) {
            return DEEPER_THAN_ALL;
        }
        int deepest = 0;
        for (String called : calls.get(method)) {
            deepest = Math.max(deepest, depth(calls, called, above + 1));
        }
        return deepest + 1;
    }

    private static String withoutComments(String text) {
        return text.replaceAll("(?s)/\\*.*?\\*/", "").replaceAll("//[^\n]*", "").replaceAll("\"[^\"\n]*\"", "\"\"");
    }

    /** A method of the class opens and closes at four blanks, one of a class inside at eight. */
    private static int longest(String code) {
        int longest = 0;
        int opened = -1;
        String[] lines = code.split("\n");
        for (int i = 0; i < lines.length; i++) {
            if (lines[i].matches(" {4}( {4})?\\S.*\\(.*") && !lines[i].endsWith(";")) {
                opened = i;
            }
            if (opened >= 0 && lines[i].matches(" {4}( {4})?\\}")) {
                longest = Math.max(longest, i - opened + 1);
            }
        }
        return longest;
    }
}
