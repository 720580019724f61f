import java.io.IOException;
import java.nio.file.Files;
import java.nio.file.Path;
import java.util.List;
import java.util.regex.Matcher;
import java.util.regex.Pattern;

/** Rules of shared/LANGUAGE.md that can be seen in the source itself; its path is the only argument. */
public final class LanguageTest {
    private static final String[] FORBIDDEN = {"\\b(throw|throws|try|catch|synchronized|assert|package|import)\\b",
        "->", "::", "\\b(equals|hashCode|toString)\\b", "static\\s*\\{", "\\bSystem\\.(?!arraycopy)", "\\bnew\\s+\\w+\\([^)]*\\)\\s*\\{",
        "\"", "\\b(while|do)\\b", "[^\\x0a\\x20-\\x7e]", "Exact\\b", "\\b(protected|abstract|volatile|transient|native)\\b"};

    public static void main(String[] args) throws IOException {
        String source = Files.readString(Path.of(args[0]));
        // Comments and character constants may name what code may not.
        String code = source.replaceAll("(?s)/\\*.*?\\*/", "").replaceAll("//[^\n]*", "").replaceAll("'.'", "0");
        for (String pattern : FORBIDDEN) {
            Matcher matcher = Pattern.compile(pattern).matcher(code);
            Check.holds("without " + pattern, !matcher.find());
        }
        checkClasses(code);
        checkMethods(code.lines().toList());
        Check.finish("LanguageTest");
    }

    private static void checkClasses(String code) {
        long classes = Pattern.compile("\\bclass\\s+\\w+").matcher(code).results().count();
        long inside = Pattern.compile("private static final class\\s+\\w+").matcher(code).results().count();
        Check.holds("twelve classes at the most", classes <= 12);
        Check.due("classes inside, all static", inside, classes - 1);
    }

    private static void checkMethods(List<String> lines) {
        Pattern head = Pattern.compile("^( {4}| {8})(?! |for |if |switch |return )[\\w\\[\\] ]+\\(([^()]*)\\) \\{$");
        for (int line = 0; line < lines.size(); line++) {
            Matcher matcher = head.matcher(lines.get(line));
            if (!matcher.find() || lines.get(line).contains(" new ")) {
                continue;
            }
            String end = matcher.group(1) + "}";
            int last = line;
            while (last < lines.size() && !lines.get(last).equals(end)) {
                last++;
            }
            Check.holds("short: " + lines.get(line), last - line <= 60);
            Check.holds("objects in constructors alone: " + lines.get(line), isConstructor(matcher.group()) || !makes(lines.subList(line, last)));
            Check.holds("seven parameters at the most: " + lines.get(line), matcher.group(2).split(",").length <= 7);
        }
    }

    private static boolean isConstructor(String head) {
        return head.matches(" *(public )?[A-Z]\\w*\\(.*");
    }

    private static boolean makes(List<String> lines) {
        return lines.stream().anyMatch(line -> line.matches(".*\\bnew\\b.*"));
    }
}
