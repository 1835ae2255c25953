import java.io.IOException;
import java.nio.file.Files;
import java.nio.file.Path;
import java.util.regex.Matcher;
import java.util.regex.Pattern;

/** Looks through the source for what ../shared/LANGUAGE.md leaves out, as far as words tell it. */
public final class LanguageTest {
    private static final String SOURCE = "src/main/java/SharedPalimpsest.java";
    private static final int LONGEST_METHOD = 60;

    private static final String[] LEFT_OUT = {
        "\\bimport\\b", "\\bpackage\\b", "->", "::", "\\bsynchronized\\b", "\\bassert\\b",
        "\\bfinally\\b", "\\btry\\b", "\\bcatch\\b", "\\bjava\\.", "\\w+Exact\\(", "\\bSystem\\.",
        "\\bThread\\b", "\\bstatic\\s*\\{", "\\bprotected\\b", "\\bhashCode\\b", "\\btoString\\b",
        "\\bequals\\b", "\\bnative\\b", "\\bvolatile\\b", "\\bgetMessage\\b", "\\bvar\\b",
        "\"\\s*\\+", "\\+\\s*\"", "[^\\x00-\\x7e]",
    };

    public static void main(String[] arguments) throws IOException {
        String whole = Files.readString(Path.of(SOURCE));
        String code = whole.replaceAll("(?s)/\\*.*?\\*/", "").replaceAll("//[^\n]*", "");
        for (String word : LEFT_OUT) {
            Matcher found = Pattern.compile(word).matcher(code);
            Check.same("the source is without " + word, found.find(), false);
        }
        for (String sign : new String[] {"deeds", "sending, coming and leaving",
            "writers, asked", "texts, asked", "what would be (nothing is changed)"}) {
            Check.same("the interface says: ---- " + sign, whole.contains("// ---- " + sign), true);
        }
        checkStatics(code);
        checkMethodLengths(code);
        Check.end("LanguageTest");
    }

    /** Static fields are final, and of plain kinds. */
    private static void checkStatics(String code) {
        Pattern field = Pattern.compile("static\\s+(\\w+)[^(){;]*=[^;]*;");
        Matcher found = field.matcher(code);
        int count = 0;
        while (found.find()) {
            count++;
            Check.same("final: " + found.group(), found.group(1).equals("final"), true);
        }
        Check.same("there are constants", count > 0, true);
    }

    /** From a line that opens a block in the class, or in one inside it, to the one that ends it. */
    private static void checkMethodLengths(String code) {
        String[] lines = code.split("\n");
        for (String indent : new String[] {"    ", "        "}) {
            int start = -1;
            for (int i = 0; i < lines.length; i++) {
                if (lines[i].matches(indent + "\\S.*\\(.*")) {
                    start = i;
                }
                if (lines[i].equals(indent + "}") && start >= 0) {
                    Check.same("short: " + lines[start].trim(), i - start <= LONGEST_METHOD, true);
                    start = -1;
                }
            }
        }
    }
}
