import java.io.IOException;
import java.nio.file.Files;
import java.nio.file.Path;
import java.util.ArrayList;
import java.util.List;
import java.util.regex.Matcher;
import java.util.regex.Pattern;

/** Those rules of LANGUAGE.md that a look at the source's words can tell. */
public final class LanguageTest {
    private static int wrong;

    public static void main(String[] args) throws IOException {
        String source = Files.readString(Path.of("src/main/java/NothingJudge.java"));
        String code = source.replaceAll("(?s)/\\*.*?\\*/", "").replaceAll("//[^\n]*", "");
        none(code, 6, "\\b(throw|throws|try|catch|finally|synchronized|assert)\\b");
        none(code, 2, "->|::");
        none(code, 4, "\\bimport (?!java\\.util\\.Arrays;)[^;]*;");
        none(code, 4, "Exact\\b|\\bSystem\\.(?!arraycopy)|\\bThread\\b|\\bRandom\\b");
        none(code, 5, "\\bstatic (?!final |int |long |void |boolean )");
        none(code, 5, "\\bstatic \\{");
        // Fields of the classes inside stand eight blanks in: what is made deeper would be made by calls.
        none(code, 12, "(?m)^ {12,}.*\\bnew \\w+.*");
        methods(code);
        System.out.println(wrong == 0 ? "no word against the language" : wrong + " words against the language");
        System.exit(wrong == 0 ? 0 : 1);
    }

    private static void none(String code, int rule, String pattern) {
        Matcher matcher = Pattern.compile(pattern).matcher(code);
        while (matcher.find()) {
            say(rule, matcher.group());
        }
    }

    private static void say(int rule, String what) {
        wrong++;
        System.out.println("rule " + rule + ": " + what);
    }

    private static void methods(String code) {
        List<String> face = new ArrayList<>();
        Matcher matcher = Pattern.compile("(?m)^( +)((?:[\\w\\[\\]]+ )+)(\\w+)\\(([^)]*)\\) \\{$").matcher(code);
        while (matcher.find()) {
            String name = matcher.group(3);
            if (matcher.group(2).contains("return ") || matcher.group(2).contains("else ")) {
                continue;
            }
            if (matcher.group(2).contains("public ")) {
                face.add(name);
            } else if (face.contains(name)) {
                say(1, name + " bears the name of a public method");
            }
            if (matcher.group(4).split(",").length > 7) {
                say(11, name + " takes too many parameters");
            }
            int end = code.indexOf("\n" + matcher.group(1) + "}\n", matcher.end());
            if (code.substring(matcher.start(), end).lines().count() > 60) {
                say(11, name + " is too long");
            }
        }
        if (face.size() != 15 + 1) {
            say(1, "the face has " + face.size() + " methods and constructors: " + face);
        }
    }
}
