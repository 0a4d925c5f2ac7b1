import java.nio.charset.StandardCharsets;
import java.nio.file.Files;
import java.nio.file.Path;
import java.util.ArrayList;
import java.util.HashSet;
import java.util.List;
import java.util.Set;
import java.util.regex.Matcher;
import java.util.regex.Pattern;

/** Holds the program's text against what of LANGUAGE.md can be seen by its signs. */
public final class LanguageTest {
    private static final String[] NOWHERE = {
        "->", "::", "\\bcatch\\b", "\\btry\\b", "\\bfinally\\b", "\\bassert\\b", "\\bsynchronized\\b", "\\binstanceof\\b",
        "\\bvar\\b", "\\bprotected\\b", "\\bInteger\\s+\\w+\\s*[;=]", "Exact\\(", "\\bObject\\b", "\\bSystem\\.(?!arraycopy)",
        "\"\\s*\\+|\\+\\s*\"", "\\bwhile \\(true\\)", "for \\(;;\\)", "\\bequals\\(", "\\bhashCode\\(", "\\btoString\\(",
        "static\\s*\\{", "\\bThread\\b", "\\bRandom\\b", "\\bdouble\\b", "\\bfloat\\b"};
    private static final Pattern METHOD = Pattern.compile(
        "^(    |        )((?:public |private |static |final )*)(?:[A-Za-z\\[\\]]+ )?(\\w+)\\(([^()]*)\\)(?: throws NoSuchElementException)? \\{$");

    private int wrong;

    public static void main(String[] args) throws Exception {
        LanguageTest test = new LanguageTest();
        String text = Files.readString(Path.of(args.length > 0 ? args[0] : "src/main/java/PaidByPoorer.java"),
            StandardCharsets.ISO_8859_1);
        test.signs(text);
        String bare = text.replaceAll("(?s)/\\*.*?\\*/", "").replaceAll("//[^\n]*", "");
        test.nowhere(bare);
        test.imports(bare);
        test.methods(bare.split("\n"));
        test.classes(bare);
        System.out.println("LanguageTest: " + test.wrong + " wrong");
        if (test.wrong > 0) {
            System.exit(1);
        }
    }

    private void tell(String what) {
        wrong++;
        System.out.println("LanguageTest: " + what);
    }

    private void signs(String text) {
        for (int i = 0; i < text.length(); i++) {
            if (text.charAt(i) > 126 || text.charAt(i) < 32 && text.charAt(i) != '\n') {
                tell("sign " + (int) text.charAt(i) + " at " + i);
            }
        }
    }

    private void nowhere(String text) {
        for (String pattern : NOWHERE) {
            Matcher m = Pattern.compile(pattern).matcher(text);
            while (m.find()) {
                tell("has " + m.group() + " at line " + text.substring(0, m.start()).split("\n", -1).length);
            }
        }
        Matcher thrown = Pattern.compile("\\bthrow\\b[^;]*").matcher(text);
        while (thrown.find()) {
            if (!thrown.group().equals("throw new NoSuchElementException()")) {
                tell("throws by " + thrown.group());
            }
        }
        Matcher fields = Pattern.compile("\n *(?:private |public )?static (?!final )(?!int |long |boolean )[^(]*;").matcher(text);
        while (fields.find()) {
            tell("static field " + fields.group());
        }
    }

    private void imports(String text) {
        Set<String> want = new HashSet<>(List.of("java.util.Arrays", "java.util.NoSuchElementException"));
        Matcher m = Pattern.compile("import ([^;]*);").matcher(text);
        while (m.find()) {
            if (!want.contains(m.group(1))) {
                tell("imports " + m.group(1));
            }
        }
        Matcher calls = Pattern.compile("\\b(Arrays|Math|Integer|Long|System)\\.(\\w+)").matcher(text);
        Set<String> library = new HashSet<>(List.of("Arrays.fill", "Math.max", "Math.min", "Math.abs", "Integer.bitCount",
            "System.arraycopy"));
        while (calls.find()) {
            if (!library.contains(calls.group())) {
                tell("calls " + calls.group());
            }
        }
    }

    /** Methods of at most sixty lines and seven parameters; none inside that bears the name of one of the face. */
    private void methods(String[] lines) {
        Set<String> face = new HashSet<>();
        List<String> others = new ArrayList<>();
        for (int i = 0; i < lines.length; i++) {
            Matcher m = METHOD.matcher(lines[i]);
            if (!m.matches() || List.of("if", "for", "while", "switch").contains(m.group(3))) {
                continue;
            }
            int end = i;
            while (!lines[end].equals(m.group(1) + "}")) {
                end++;
            }
            if (end - i > 60) {
                tell(m.group(3) + " has " + (end - i) + " lines");
            }
            if (m.group(4).split(",").length > 7) {
                tell(m.group(3) + " has too many parameters");
            }
            if (m.group(2).contains("public")) {
                face.add(m.group(3));
            } else {
                others.add(m.group(3));
            }
        }
        for (String name : others) {
            if (face.contains(name)) {
                tell(name + " bears the name of one of the face");
            }
        }
        if (face.size() != 47 || others.size() < 50) {
            tell("found " + face.size() + " of the face, " + others.size() + " others");
        }
    }

    private void classes(String text) {
        Matcher m = Pattern.compile("\\bclass (\\w+)").matcher(text);
        int classes = 0;
        while (m.find()) {
            classes++;
        }
        if (classes > 12) {
            tell(classes + " classes");
        }
        for (String part : text.split("\\bclass ")) {
            Matcher fields = Pattern.compile("\n(?:    |        )private (?:final )?[\\w\\[\\]]+ \\w+;").matcher(part);
            int count = 0;
            while (fields.find()) {
                count++;
            }
            if (count > 20) {
                tell(count + " fields in " + part.substring(0, 12));
            }
        }
    }
}
