import java.io.IOException;
import java.nio.file.Files;
import java.nio.file.Path;
import java.util.ArrayList;
import java.util.List;
import java.util.regex.Matcher;
import java.util.regex.Pattern;

/** The rules of ../shared/LANGUAGE.md that can be told from the program's text alone. */
public final class LanguageTest {
    private static final Expect EXPECT = new Expect("LanguageTest");
    private static final Path PROGRAM = Path.of("src", "main", "java", "FairChecker.java");
    private static final int MOST_LINES_OF_METHOD = 60;
    private static final int MOST_PARAMETERS = 7;
    private static final int MOST_CLASSES = 12;
    private static final int MOST_FIELDS = 20;

    private static final Pattern METHOD =
        Pattern.compile("^( {4}| {8})(?!private .*=)[a-z][^=;(]*\\b\\w+\\(([^)]*)\\)( \\{|$)");

    public static void main(String[] args) throws IOException {
        String program = Files.readString(PROGRAM);
        onlyTheProgram();
        String code = withoutTextsAndComments(program);
        words(code);
        exceptions(program, code);
        statics(code);
        methods(code);
        classes();
        EXPECT.end();
    }

    private static void onlyTheProgram() throws IOException {
        try (var files = Files.walk(Path.of("src", "main"))) {
            EXPECT.same("one file: the files", files.filter(Files::isRegularFile).count(), 1);
        }
    }

    private static String withoutTextsAndComments(String program) {
        return program.replaceAll("(?s)/\\*.*?\\*/", "").replaceAll("//[^\n]*", "").replaceAll("\"[^\"\n]*\"", "\"\"");
    }

    private static void none(String rule, String code, String pattern) {
        Matcher m = Pattern.compile(pattern).matcher(code);
        EXPECT.isTrue(rule + ": no " + pattern + " stands in the program, that", !m.find());
    }

    private static void words(String code) {
        none("what it keeps to", code, "(?m)^package ");
        none("rule 2", code, "->|::");
        none("rule 4", code, "\\bMath\\.(?!min\\(|max\\(|abs\\(|floorDiv\\(|floorMod\\()");
        none("rule 4", code, "\\bArrays\\.(?!copyOf\\(|copyOfRange\\(|fill\\()");
        none("rule 4", code, "\\bSystem\\.(?!arraycopy\\()");
        none("rule 6", code, "\\b(finally|synchronized|assert|hashCode|getMessage)\\b");
        none("what the machine throws", code,
            "catch \\((?!IllegalStateException |IllegalArgumentException |IndexOutOfBoundsException )");
        none("rule 9", code, "while \\(true\\)|for \\(;");
        none("rule 10", code, "\"\" \\+|\\+ \"\"");
        none("rule 13", code, "\\b(Thread|Random|File|Clock)\\b");
        Matcher imports = Pattern.compile("(?m)^import (.*);$").matcher(code);
        while (imports.find()) {
            EXPECT.isTrue("rule 4: " + imports.group(1) + " is of the library, that",
                List.of("java.util.Arrays").contains(imports.group(1)));
        }
    }

    private static void exceptions(String program, String code) {
        int all = found(code, "\\bthrow\\b").size();
        int written = found(program, "throw new (IllegalState|IllegalArgument|IndexOutOfBounds)Exception\\(\"[ -~]*\"\\);").size();
        EXPECT.same("rule 6: exceptions with a written text", written, all);
    }

    private static void statics(String code) {
        for (String field : found(code, "\\bstatic (?!final (int|long) [A-Z_]+\\s*=)[^({;]*[=;]")) {
            EXPECT.isTrue("rule 5: " + field + " is a constant, that", false);
        }
    }

    private static void methods(String code) {
        String[] lines = code.split("\n");
        int seen = 0;
        for (int i = 0; i < lines.length; i++) {
            Matcher m = METHOD.matcher(lines[i]);
            if (!m.find()) {
                continue;
            }
            seen++;
            int end = i;
            while (!lines[end].equals(m.group(1) + "}")) {
                end++;
            }
            EXPECT.isTrue("rule 11: " + lines[i].trim() + " is short, that", end - i < MOST_LINES_OF_METHOD);
            EXPECT.isTrue("rule 11: " + lines[i].trim() + " has few parameters, that",
                m.group(2).split(",").length <= MOST_PARAMETERS);
        }
        EXPECT.isTrue("more methods than the face has were looked at (" + seen + "), that", seen > 20);
    }

    private static void classes() {
        Class<?>[] inner = FairChecker.class.getDeclaredClasses();
        EXPECT.isTrue("rule 11: there are few classes, that", inner.length < MOST_CLASSES);
        for (Class<?> c : inner) {
            int fields = 0;
            for (var f : c.getDeclaredFields()) {
                fields += java.lang.reflect.Modifier.isStatic(f.getModifiers()) ? 0 : 1;
            }
            EXPECT.isTrue("rule 11: " + c + " has few fields, that", fields <= MOST_FIELDS);
            EXPECT.same("rule 2: classes in " + c, c.getDeclaredClasses().length, 0);
        }
    }

    private static List<String> found(String text, String pattern) {
        List<String> all = new ArrayList<>();
        Matcher m = Pattern.compile(pattern).matcher(text);
        while (m.find()) {
            all.add(m.group());
        }
        return all;
    }
}
