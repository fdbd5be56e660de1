import java.io.IOException;
import java.nio.file.Files;
import java.nio.file.Path;
import java.util.ArrayList;
import java.util.List;
import java.util.Set;
import java.util.TreeSet;
import java.util.regex.Matcher;
import java.util.regex.Pattern;

/** Those rules of LANGUAGE.md that can be seen in the text of the program. */
public final class LanguageTest {
    private static final String[] FORBIDDEN = {
        "\\bsynchronized\\b", "\\bassert\\b", "\\bfinally\\b", "->", "::", "\\btry\\b", "\\bcatch\\b",
        "\\bstatic\\s*\\{", "\\bprotected\\b", "\\bequals\\s*\\(", "\\bhashCode\\b", "\\btoString\\b",
        "\"\\s*\\+", "\\+\\s*\"", "[^\\x00-\\x7f]", "\\bMath\\.\\w+Exact\\b", "\\bvar\\b", "\\bfloat\\b", "\\bdouble\\b",
        "\\b[A-Z]\\w*\\.M(AX|IN)_VALUE\\b"};

    public static void main(String[] args) throws IOException {
        String source = Files.readString(Path.of("src/main/java/DrizzleVote.java"));
        List<String> faults = new ArrayList<>();
        String code = source.replaceAll("(?s)/\\*.*?\\*/", "").replaceAll("//[^\n]*", "");
        for (String one : FORBIDDEN) {
            Matcher m = Pattern.compile(one).matcher(code);
            if (m.find()) {
                faults.add("there is " + m.group());
            }
        }
        imports(code, faults);
        names(code, faults);
        lengths(source, faults);
        if (!faults.isEmpty()) {
            System.out.println(String.join("\n", faults));
            System.exit(1);
        }
        System.out.println("the rules that a text shows are kept");
    }

    private static void imports(String code, List<String> faults) {
        Matcher m = Pattern.compile("(?m)^import (.*);$").matcher(code);
        while (m.find()) {
            if (!Set.of("java.util.Arrays", "java.util.NoSuchElementException").contains(m.group(1))) {
                faults.add("import of " + m.group(1));
            }
        }
        if (code.contains("package ")) {
            faults.add("there is a package line");
        }
    }

    /** No private method, and none of a class inside, bears the name of a public one. */
    private static void names(String code, List<String> faults) {
        Set<String> face = new TreeSet<>();
        Matcher m = Pattern.compile("(?m)^    public \\w+ (\\w+)\\(").matcher(code);
        while (m.find()) {
            face.add(m.group(1));
        }
        if (face.size() != 62) {
            faults.add("the face has " + face.size() + " methods");
        }
        m = Pattern.compile("(?m)^ +(?:private )?(?:static )?(?:int|boolean|void|int\\[\\]) (\\w+)\\([^;]*\\{$").matcher(code);
        while (m.find()) {
            if (face.contains(m.group(1))) {
                faults.add("a private method bears the name of a public one: " + m.group(1));
            }
        }
        m = Pattern.compile("\\bclass \\w+").matcher(code);
        int classes = 0;
        while (m.find()) {
            classes++;
        }
        if (classes > 12) {
            faults.add("there are " + classes + " classes");
        }
    }

    private static void lengths(String source, List<String> faults) {
        Matcher m = Pattern.compile("(?m)^( {4}| {8})\\w[^=;\n]*\\(.*\\{\n((?:.*\n)*?)\\1\\}$").matcher(source);
        int methods = 0;
        while (m.find()) {
            methods++;
            long lines = m.group(2).chars().filter(c -> c == '\n').count();
            if (lines > 60) {
                faults.add("a method of " + lines + " lines: " + m.group().substring(0, 60).trim());
            }
        }
        if (methods < 150) {
            faults.add("only " + methods + " methods were found");
        }
    }
}
