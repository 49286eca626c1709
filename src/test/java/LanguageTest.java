import java.io.IOException;
import java.nio.file.Files;
import java.nio.file.Path;
import java.util.regex.Matcher;
import java.util.regex.Pattern;

/** Signs of what LANGUAGE.md rules out, looked for in the source of the program (its path is the argument). */
final class LanguageTest {
    private static final String[] RULED_OUT = {
        "->", "::", "\\bpackage\\b", "\\btry\\b", "\\bcatch\\b", "\\bfinally\\b", "\\bsynchronized\\b", "\\bassert\\b",
        "Exact\\b", "\\bDouble\\b", "\\bFloat\\b", "\\bfloor\\(", "\\bSystem\\.(?!arraycopy)", "\\bThread\\b",
        "\\bRandom\\b", "\\bCollections\\b", "\\bObjects\\b", "\\bInteger\\.[A-Z]", "\\bLong\\.[A-Z]", "\\bMath\\.[A-Z]",
        "\\bprotected\\b", "static (final )?(double|float)\\b", "static \\{", "\\brecord\\b", "\\bvar\\b", "%n", "\\?\\?",
        "\" \\+", "\\+ \"", "\\bfor \\(;;", "while \\(true\\)",
    };

    private LanguageTest() {
    }

    public static void main(String[] args) throws IOException {
        String source = Files.readString(Path.of(args[0]));
        for (int i = 0; i < source.length(); i++) {
            char sign = source.charAt(i);
            if (sign > 126 || sign < 32 && sign != '\n') {
                Check.equal("sign " + i + " of the source", "1 to 126", (int) sign + "");
            }
        }
        String code = source.replaceAll("(?s)/\\*.*?\\*/", "").replaceAll("//[^\n]*", "");
        for (String sign : RULED_OUT) {
            Matcher found = Pattern.compile(sign).matcher(code);
            Check.isTrue("the source is without " + sign, !found.find());
        }
        Matcher imports = Pattern.compile("import ([^;]*);").matcher(code);
        while (imports.find()) {
            Check.isTrue(imports.group(1) + " is in the library", imports.group(1).equals("java.util.Arrays"));
        }
        methodsAreShort(code);
        Check.end();
    }

    /** A method of the class itself begins and ends behind four blanks, one of a class inside behind eight. */
    private static void methodsAreShort(String code) {
        int begin = 0;
        String end = null;
        String[] lines = code.split("\n");
        for (int i = 0; i < lines.length; i++) {
            if (end == null && lines[i].matches("(    |        )[^ ].*\\) (throws .*)?\\{")) {
                begin = i;
                end = lines[i].startsWith("        ") ? "        }" : "    }";
            } else if (lines[i].equals(end)) {
                Check.isTrue("a method of 60 lines at most: " + lines[begin].trim(), i - begin < 60);
                end = null;
            }
        }
    }
}
