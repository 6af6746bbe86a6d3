import java.nio.charset.StandardCharsets;
import java.nio.file.Files;
import java.nio.file.Path;
import java.util.ArrayDeque;
import java.util.Arrays;
import java.util.Deque;
import java.util.List;
import java.util.regex.Matcher;
import java.util.regex.Pattern;

/**
 * What LANGUAGE.md asks of the source and a look at its text can tell; .ci/run starts it in the project's directory.
 */
public final class SourceTest {
    private static final Path SOURCE = Path.of("src", "main", "java", "NumeralCipher.java");
    private static final List<String> EXCEPTIONS = Arrays.asList("IllegalArgumentException", "IllegalStateException",
        "IndexOutOfBoundsException", "UnsupportedOperationException");
    /* Rules 2, 6 and 13, and what the task says of catching what the machine throws: none of these is needed here. */
    private static final String[] ABSENT = {"->", "::", "@", "\\btry\\b", "\\bcatch\\b", "\\bfinally\\b",
        "\\bsynchronized\\b", "\\bassert\\b", "\\bvolatile\\b", "\\bnative\\b", "Exact\\s*\\(", "\\bMath\\.random\\b",
        "\\bdouble\\b", "\\bfloat\\b", "\\bThread\\b", "\\bSystem\\.(?!arraycopy\\b)", "\\bpackage\\b", "\\bprotected\\b",
        "static\\s*\\{", "\\b(equals|hashCode|toString)\\s*\\(", "\\bwhile\\s*\\(\\s*true", "\\bfor\\s*\\(\\s*;\\s*;"};

    private static int wrong = 0;

    public static void main(String[] args) throws Exception {
        byte[] bytes = Files.readAllBytes(SOURCE);
        for (byte b : bytes) {
            check(b == '\n' || b >= ' ' && b < 127, "each sign is a plain one: " + b);
        }
        String code = withoutCommentsAndTexts(new String(bytes, StandardCharsets.US_ASCII));
        for (String pattern : ABSENT) {
            check(!Pattern.compile(pattern).matcher(code).find(), "the source is without " + pattern);
        }
        importsAreListed(code);
        objectsAreMadeInFieldsOrThrown(code);
        staticFieldsAreFinal(code);
        System.out.println(wrong == 0 ? "all answers are as due" : wrong + " answers are not as due");
        if (wrong != 0) {
            System.exit(1);
        }
    }

    private static String withoutCommentsAndTexts(String source) {
        String bare = Pattern.compile("/\\*.*?\\*/", Pattern.DOTALL).matcher(source).replaceAll(" ");
        return bare.replaceAll("//[^\n]*", " ").replaceAll("\"[^\"\n]*\"", "\"\"");
    }

    private static void importsAreListed(String code) {
        Matcher imported = Pattern.compile("import\\s+([^;]+);").matcher(code);
        while (imported.find()) {
            check(imported.group(1).equals("java.util.Arrays"), "imported: " + imported.group(1));
        }
    }

    /** The room is one for all calls of a run, so a call makes nothing but the exception that it throws. */
    private static void objectsAreMadeInFieldsOrThrown(String code) {
        Deque<Boolean> insideClass = new ArrayDeque<>();
        for (String line : code.split("\n")) {
            Matcher made = Pattern.compile("\\bnew\\s+(\\w+)").matcher(line);
            boolean makes = made.find();
            if (makes && !Boolean.TRUE.equals(insideClass.peek())) {
                check(line.trim().matches("throw new \\w+\\(\"\"\\);") && EXCEPTIONS.contains(made.group(1)),
                    "made by a field or thrown: " + line.trim());
            }
            check(makes || !line.contains("throw "), "thrown where it is made: " + line.trim());
            for (char sign : line.toCharArray()) {
                if (sign == '{') {
                    insideClass.push(line.contains(" class "));
                } else if (sign == '}') {
                    insideClass.poll();
                }
            }
        }
    }

    private static void staticFieldsAreFinal(String code) {
        Matcher field = Pattern.compile("\\bstatic\\s+([^;(){}=]*)=").matcher(code);
        while (field.find()) {
            check(field.group(1).startsWith("final "), "static and final: " + field.group(1));
        }
    }

    private static void check(boolean holds, String what) {
        if (!holds) {
            wrong++;
            System.out.println("not so: " + what);
        }
    }
}
