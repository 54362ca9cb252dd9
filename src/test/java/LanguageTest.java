import java.nio.file.Files;
import java.nio.file.Path;
import java.util.ArrayList;
import java.util.List;
import java.util.TreeSet;
import java.util.regex.Matcher;
import java.util.regex.Pattern;

/** What of LANGUAGE.md can be seen from the text of the class. */
public final class LanguageTest {
    private static final Calls calls = new Calls();

    public static void main(String[] args) throws Exception {
        String source = Files.readString(Path.of("src/main/java/DayProfiles.java"));
        String code = source.replaceAll("(?s)/\\*.*?\\*/", "").replaceAll("//[^\\n]*", "");
        none(code, "package line or other import", "(?m)^(package|import (?!java\\.util\\.NoSuchElementException;)).*");
        none(code, "lambda or method reference", "->|::");
        none(code, "try, catch, finally, synchronized, assert", "\\b(try|catch|finally|synchronized|assert)\\b");
        none(code, "protected member", "\\bprotected\\b");
        none(code, "a library not asked for", "\\b(System|Thread|Random|Scanner|Files|Arrays|Collections|Map|HashMap|Set)\\b");
        none(code, "methods of Math that end in Exact", "Exact\\b");
        none(code, "static state", "(?m)^\\s*(private |public )?static (?!final )[A-Za-z\\[\\]]+ \\w+\\s*(=|;)");
        none(code, "a loop without a test", "for \\(;;\\)|while \\(true\\)|for \\([^;]*; ;");
        none(code, "division by what may be 0", "[^/*]/(?! minutes;)[^/*]");
        noneButAscii(source);
        names(code);
        methods(code);
        calls.end();
    }

    private static void none(String code, String what, String pattern) {
        Matcher m = Pattern.compile(pattern).matcher(code);
        boolean found = m.find();
        calls.due(what + (found ? " (" + m.group() + ")" : ""), found ? 1 : 0, 0);
    }

    private static void noneButAscii(String source) {
        calls.due("signs beyond 127", source.chars().filter(sign -> sign > 127).count(), 0);
    }

    /** No method but the public ones bears a public one's name. */
    private static void names(String code) {
        TreeSet<String> faces = new TreeSet<>();
        List<String> others = new ArrayList<>();
        Matcher m = Pattern.compile("(?m)^ +(public |private )?(static )?(int|long|boolean|void) (\\w+)\\(").matcher(code);
        while (m.find()) {
            if ("public ".equals(m.group(1))) {
                calls.due("public method told twice " + m.group(4), faces.add(m.group(4)) ? 1 : 0, 1);
            } else {
                others.add(m.group(4));
            }
        }
        calls.due("public methods", faces.size(), 44);
        for (String name : others) {
            calls.due("a public one's name: " + name, faces.contains(name) ? 1 : 0, 0);
        }
    }

    /** Methods stay short and take seven parameters at most. */
    private static void methods(String code) {
        int start = 0;
        int number = 0;
        String header = "";
        for (String line : code.split("\n")) {
            number++;
            if (line.matches(" +[\\w ]*\\w\\(.*\\) *(throws [\\w, ]+)?\\{") && !line.matches(" +(if|for|while|switch|} else).*")) {
                header = line.trim();
                start = number;
                calls.due("parameters of " + header, header.split(",").length <= 7 ? 1 : 0, 1);
            }
            if (line.matches("    (    )?\\}") && !header.isEmpty()) {
                calls.due("lines of " + header, number - start <= 50 ? 1 : 0, 1);
                header = "";
            }
        }
    }
}
