import java.io.IOException;
import java.nio.file.Files;
import java.nio.file.Path;
import java.util.List;
import java.util.regex.Matcher;
import java.util.regex.Pattern;

/** What of ../shared/LANGUAGE.md can be read off the program's text line by line. */
public final class LanguageTest {
    private static final Path SOURCE = Path.of("src/main/java/NameGuard.java");
    private static final String[] FORBIDDEN = {
        "\\b(throw|throws|try|catch|finally|synchronized|assert|protected|volatile|transient|native|package)\\b",
        "->", "::", "\\bstatic\\s*\\{", "\\b\\w+Exact\\b", "\\b(hashCode|toString|getClass)\\b",
        "\\bSystem\\.(?!arraycopy)", "\\b(Object|Map|Set|Random|Thread|Class|Exception|Error)\\b",
        "\\bvar\\b", "\\bwhile\\s*\\(\\s*true", "\\bfor\\s*\\(\\s*;\\s*;", "\\bArrays\\.(?!copyOf|copyOfRange|fill)",
        "\\bInteger\\.(?!bitCount|compare|max|min|MAX_VALUE|MIN_VALUE)", "\\bMath\\.(?!max|min|abs|floorDiv|floorMod)",
    };

    private LanguageTest() {
    }

    public static void main(String[] args) throws IOException {
        String source = Files.readString(SOURCE);
        Check.due("signs beyond 127", source.chars().filter(c -> c > 126).count(), 0);
        String code = source.replaceAll("(?s)/\\*.*?\\*/", "").replaceAll("//[^\n]*", "");
        for (String pattern : FORBIDDEN) {
            Matcher found = Pattern.compile(pattern).matcher(code);
            Check.dueText(pattern, found.find() ? found.group() : "", "");
        }
        imports(code);
        staticFields(code);
        methods(code);
        Check.close("LanguageTest");
    }

    private static void imports(String code) {
        Matcher found = Pattern.compile("import ([^;]+);").matcher(code);
        while (found.find()) {
            boolean listed = List.of("java.util.Arrays", "java.util.ArrayList", "java.util.List",
                "java.util.Iterator").contains(found.group(1));
            Check.due("import " + found.group(1), listed ? 1 : 0, 1);
        }
    }

    private static void staticFields(String code) {
        Matcher found = Pattern.compile("\\bstatic\\s+([^;{(=]*)[=;]").matcher(code);
        while (found.find()) {
            Check.due("static field is final: " + found.group(1), found.group(1).startsWith("final ") ? 1 : 0, 1);
        }
    }

    private static void methods(String code) {
        Pattern head = Pattern.compile("^ {4,8}(?:[\\w\\[\\]]+ )*\\w+\\(([^)]*)\\) \\{$");
        String[] lines = code.split("\n");
        int from = -1;
        String indent = "";
        for (int i = 0; i < lines.length; i++) {
            Matcher found = head.matcher(lines[i]);
            if (from < 0 && found.matches()) {
                from = i;
                indent = lines[i].substring(0, lines[i].length() - lines[i].stripLeading().length());
                int parameters = found.group(1).isEmpty() ? 0 : found.group(1).split(",").length;
                Check.due("more than seven parameters: " + lines[i], parameters > 7 ? 1 : 0, 0);
            } else if (from >= 0 && lines[i].equals(indent + "}")) {
                Check.due("more than sixty lines: " + lines[from], i - from + 1 > 60 ? 1 : 0, 0);
                from = -1;
            }
        }
    }
}
