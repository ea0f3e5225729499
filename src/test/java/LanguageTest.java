import java.io.IOException;
import java.nio.file.Files;
import java.nio.file.Path;
import java.util.regex.Matcher;
import java.util.regex.Pattern;

/** What of ../shared/LANGUAGE.md can be seen in the source's own words. */
public final class LanguageTest {
    private static final String[] NEVER = {"->", "::", "\\btry\\b", "\\bcatch\\b", "\\bfinally\\b", "\\bassert\\b",
        "\\bsynchronized\\b", "\\binstanceof\\b", "@", "\\bthis\\.\\w+\\(", "\\bprotected\\b", "\\bextends\\b",
        "\\bString\\[", "Exact\\(", "System\\.(?!arraycopy)", "\\bvar\\b", "\\bpackage\\b", "\\bint\\[\\]\\[\\]", "\" *\\+",
        "while *\\(true\\)", "for *\\(;", "Math\\.(?!max|min)", "Integer\\.(?!bitCount)"};

    public static void main(String[] args) throws IOException {
        String source = Files.readString(Path.of("src/main/java/ShopEyes.java"));
        String code = source.replaceAll("(?s)/\\*.*?\\*/", "").replaceAll("//[^\n]*", "");
        for (String never : NEVER) {
            Matcher m = Pattern.compile(never).matcher(code);
            Check.due(never + " in it", false, m.find());
        }
        Check.due("one import", 1, code.split("\\bimport\\b", -1).length - 1);
        Check.due("signs above 126", 0, source.chars().filter(c -> c > 126).count());
        exceptions(code);
        rowsAreReadByOneMethod(code);
        methods(code);
        Check.end("LanguageTest");
    }

    private static void exceptions(String code) {
        Matcher m = Pattern.compile("throw\\b([^;]*);").matcher(code);
        while (m.find()) {
            Check.due(m.group(), true, m.group(1).matches(" new (NoSuchElement|IllegalArgument)Exception\\(\\)"));
        }
    }

    /** An index stands only where it has just been looked at: in at and put, and in filling a row up to its length. */
    private static void rowsAreReadByOneMethod(String code) {
        Matcher m = Pattern.compile("\\w\\[[^\\]]+\\]").matcher(code.replaceAll("new int\\[[^\\]]+\\]", ""));
        int found = 0;
        while (m.find()) {
            found++;
        }
        Check.due("places with an index", 3, found);
    }

    private static void methods(String code) {
        String[] lines = code.split("\n");
        int start = -1;
        for (int i = 0; i < lines.length; i++) {
            if (lines[i].matches(" {4,8}(public|private)[^=;]*\\(.*")) {
                start = i;
                Check.due("parameters: " + lines[i], true, lines[i].split(",").length <= 7);
            }
            if (start >= 0 && lines[i].matches(" {4,8}\\}")) {
                Check.due("lines of " + lines[start], true, i - start < 60);
                start = -1;
            }
        }
    }
}
