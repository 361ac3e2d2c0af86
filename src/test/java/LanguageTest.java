import java.io.IOException;
import java.nio.file.Files;
import java.nio.file.Path;
import java.util.regex.Matcher;
import java.util.regex.Pattern;

/** Rules of ../shared/LANGUAGE.md that a look at the text of the program can tell; run it in the project's folder. */
public final class LanguageTest {
    private static final String[] FORBIDDEN = {
        "\\b(import|package)\\b",
        "\\b(throw|throws|try|catch|finally|synchronized|assert|protected|native|volatile|transient)\\b",
        "->|::|@|\"",
        "\\b(Object|Exception|Thread|Random|Class|equals|hashCode|toString|getClass|var|instanceof)\\b",
        "\\bSystem\\.(?!arraycopy\\b)\\w+",
        "\\b(Integer|Long)\\.(?!bitCount\\b)\\w+",
        "\\bMath\\.(?!max\\b|min\\b)\\w+",
        "\\b(double|float|NaN)\\b",
        "static\\s*\\{"
    };
    private static final int LONGEST_METHOD = 60;
    private static int wrong = 0;

    public static void main(String[] args) throws IOException {
        String source = Files.readString(Path.of("src/main/java/ArrayBench.java"));
        source.chars().filter(sign -> sign > 126).forEach(sign -> complain("sign " + sign));
        String code = source.replaceAll("(?s)/\\*.*?\\*/", "").replaceAll("//[^\n]*", "");
        for (String forbidden : FORBIDDEN) {
            Matcher found = Pattern.compile(forbidden).matcher(code);
            while (found.find()) {
                complain("'" + found.group() + "'");
            }
        }
        makesObjectsOnlyAtFirst(code);
        keepsMethodsShort(code);
        System.out.println(wrong == 0 ? "the language is as due" : wrong + " breaches of the language");
        if (wrong != 0) {
            System.exit(1);
        }
    }

    private static void complain(String what) {
        wrong++;
        System.out.println("src/main/java/ArrayBench.java has " + what);
    }

    /** Objects are made by fields' initialisers and in constructors, so that no call takes room. */
    private static void makesObjectsOnlyAtFirst(String code) {
        boolean inConstructor = false;
        for (String line : code.split("\n")) {
            if (line.matches(" +(public )?[A-Z]\\w*\\(\\) \\{")) {
                inConstructor = true;
            } else if (line.matches(" {4,8}\\}")) {
                inConstructor = false;
            }
            boolean isField = line.matches(" {4,8}(private )?(final )?[\\w\\[\\]]+ \\w+ = new .*");
            if (line.contains("new ") && !isField && !inConstructor) {
                complain("an object made by a call: " + line.trim());
            }
        }
    }

    private static void keepsMethodsShort(String code) {
        int length = 0;
        for (String line : code.split("\n")) {
            length = line.matches(" {4,8}[^ ].*\\{") ? 0 : length + 1;
            if (line.matches(" {4,8}\\}") && length > LONGEST_METHOD) {
                complain("a method of " + length + " lines");
            }
        }
    }
}
