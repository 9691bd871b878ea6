import java.nio.charset.StandardCharsets;
import java.nio.file.Files;
import java.nio.file.Path;
import java.util.regex.Matcher;
import java.util.regex.Pattern;

/** A few rules of LANGUAGE.md that can be seen from the text of the class. */
public final class LanguageTest {
    private static final String[] FORBIDDEN = {"->", "::", "\\btry\\b", "\\bcatch\\b", "\\bfinally\\b", "\\bsynchronized\\b",
        "\\bassert\\b", "\\w+Exact\\b", "\\bstatic \\{", "\\bpackage\\b", "\\bThread\\b", "\\bSystem\\.(?!arraycopy)",
        "\\b(HashMap|Map|Set|Random|Optional|Stream|Scanner)\\b", "\\b(hashCode|toString|getMessage|printStackTrace)\\b",
        "\"\\s*\\+|\\+\\s*\"", "\\bprotected\\b", "\\bextends\\b", "\\bdouble\\b|\\bfloat\\b"};

    public static void main(String[] args) throws Exception {
        Check check = new Check("LanguageTest");
        String text = Files.readString(Path.of("src/main/java/SamePassers.java"), StandardCharsets.UTF_8);
        String code = text.replaceAll("(?s)/\\*.*?\\*/", "").replaceAll("//[^\n]*", "");
        for (String forbidden : FORBIDDEN) {
            check.due(forbidden + " in the code", Pattern.compile(forbidden).matcher(code).find(), false);
        }
        Matcher imports = Pattern.compile("import ([^;]*);").matcher(code);
        while (imports.find()) {
            boolean listed = imports.group(1).equals("java.util.Arrays") || imports.group(1).equals("java.util.NoSuchElementException");
            check.due("import " + imports.group(1), listed, true);
        }
        for (int i = 0; i < text.length(); i++) {
            check.due("sign " + (int) text.charAt(i) + " at " + i, text.charAt(i) <= 126, true);
        }
        Matcher methods = Pattern.compile("(?m)^( +)[\\w\\[\\]<> ]+\\([^)]*\\)[^;{]*\\{\n(?s:.*?)\n\\1\\}").matcher(code);
        int many = 0;
        while (methods.find()) {
            many++;
            String method = methods.group();
            check.due("lines of " + method.trim().split("\n")[0], method.split("\n").length <= 60, true);
        }
        check.due("methods found", many > 100, true);
        check.end();
    }
}
