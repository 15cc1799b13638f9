import java.io.IOException;
import java.lang.reflect.Field;
import java.lang.reflect.Method;
import java.lang.reflect.Modifier;
import java.nio.file.Files;
import java.nio.file.Path;
import java.util.ArrayList;
import java.util.List;
import java.util.Set;
import java.util.TreeSet;
import java.util.regex.Matcher;
import java.util.regex.Pattern;

/** Looks for what ../shared/LANGUAGE.md rules out, as far as a text and its classes tell it. */
public final class LanguageTest {
    private static final Path SOURCE = Path.of("src/main/java/CrossingMail.java");
    private static final Path DOCUMENT = Path.of("../shared/DOC.md");
    private static final String THROWN = "IllegalStateException|IllegalArgumentException|IndexOutOfBoundsException"
            + "|ArithmeticException|UnsupportedOperationException|NoSuchElementException|RuntimeException";

    private LanguageTest() {
    }

    public static void main(String[] args) throws IOException {
        String source = Files.readString(SOURCE);
        String code = withoutCommentsAndTexts(source);
        if (Files.exists(DOCUMENT)) {
            faceIsThatOfTheDocument(source, Files.readString(DOCUMENT));
        }
        List<Class<?>> classes = new ArrayList<>(List.of(CrossingMail.class));
        classes.addAll(List.of(CrossingMail.class.getDeclaredClasses()));
        Check.that("at most twelve classes", classes.size() <= 12, true);
        for (Class<?> type : classes) {
            membersKeepToTheRules(type);
        }
        noOtherMemberIsVisible();
        forbiddenSigns(code);
        libraryNames(code);
        exceptions(code);
        objectsAreMadeInConstructorsAlone(code);
        methodsAreShort(code);
        Check.done("LanguageTest");
    }

    private static String withoutCommentsAndTexts(String source) {
        String text = Pattern.compile("/\\*.*?\\*/", Pattern.DOTALL).matcher(source).replaceAll("");
        return text.replaceAll("\"[^\"\n]*\"", "\"\"").replaceAll("//[^\n]*", "").replaceAll("'.'", "' '");
    }

    private static Set<String> publicLines(String text, String indent) {
        Set<String> lines = new TreeSet<>();
        for (String line : text.split("\n")) {
            if (line.startsWith(indent + "public ")) {
                lines.add(line.trim().replaceAll("\\s*[;{]$", ""));
            }
        }
        return lines;
    }

    private static void faceIsThatOfTheDocument(String source, String document) {
        String face = document.substring(document.indexOf("```java"), document.lastIndexOf("```"));
        Set<String> due = publicLines(face, "    ");
        Check.that("the public face", publicLines(source, "    "), due);
        Check.that("47 methods, a constructor and 9 constants", due.size(), 57);
    }

    private static void membersKeepToTheRules(Class<?> type) {
        int fields = 0;
        for (Field field : type.getDeclaredFields()) {
            boolean fixed = Modifier.isStatic(field.getModifiers());
            Check.that("static fields are final: " + field, !fixed || Modifier.isFinal(field.getModifiers()), true);
            fields += fixed ? 0 : 1;
        }
        Check.that("at most twenty fields: " + type, fields <= 20, true);
        Set<String> open = new TreeSet<>();
        for (Method method : CrossingMail.class.getDeclaredMethods()) {
            if (Modifier.isPublic(method.getModifiers())) {
                open.add(method.getName());
            }
        }
        for (Method method : type.getDeclaredMethods()) {
            Check.that("at most seven parameters: " + method, method.getParameterCount() <= 7, true);
            Check.that("no hidden name of a public one: " + method,
                Modifier.isPublic(method.getModifiers()) || !open.contains(method.getName()), true);
        }
        Check.that("classes inside are static: " + type,
            type == CrossingMail.class || Modifier.isStatic(type.getModifiers()), true);
    }

    private static void noOtherMemberIsVisible() {
        int hidden = Modifier.PUBLIC | Modifier.PRIVATE;
        for (Method method : CrossingMail.class.getDeclaredMethods()) {
            Check.that("public or private: " + method, method.isSynthetic() || (method.getModifiers() & hidden) != 0, true);
        }
        for (Field field : CrossingMail.class.getDeclaredFields()) {
            Check.that("public or private: " + field, field.isSynthetic() || (field.getModifiers() & hidden) != 0, true);
        }
    }

    private static void forbiddenSigns(String code) {
        String[] signs = {"->", "::", "\\bsynchronized\\b", "\\bassert\\b", "\\bfinally\\b", "\\btry\\b", "\\bcatch\\b",
            "\\bstatic\\s*\\{", "\\binstanceof\\b", "\\bpackage\\b", "\\w*Exact\\b", "\\bequals\\b", "\\bhashCode\\b",
            "\\btoString\\b", "\\bObject\\b", "\\bvar\\b", "\\byield\\b", "\\bthread\\b", "\"\\s*\\+", "\\+\\s*\""};
        for (String sign : signs) {
            Check.that("no " + sign, Pattern.compile(sign).matcher(code).find(), false);
        }
        Matcher far = Pattern.compile("[^\\x00-\\x7f]").matcher(code);
        Check.that("plain signs alone", far.find(), false);
    }

    private static void libraryNames(String code) {
        Set<String> used = new TreeSet<>();
        Matcher matcher = Pattern.compile("\\b(?:System|Math|Integer|Long|Arrays|String|Character)\\.\\w+|\\bimport [^;]+")
            .matcher(code);
        while (matcher.find()) {
            used.add(matcher.group());
        }
        Set<String> allowed = Set.of("System.arraycopy", "Math.min", "Math.max", "Math.floorMod", "Math.floorDiv",
            "Math.abs", "Integer.bitCount", "import java.util.NoSuchElementException");
        used.removeAll(allowed);
        Check.that("no other library", used.toString(), "[]");
    }

    private static void exceptions(String code) {
        Matcher matcher = Pattern.compile("\\bthrow\\b[^;]*;").matcher(code);
        while (matcher.find()) {
            Check.that("rule 6: " + matcher.group(), matcher.group().matches("throw new (" + THROWN + ")\\(\\);"), true);
        }
    }

    /** So no run of calls, however long, fills the room. */
    private static void objectsAreMadeInConstructorsAlone(String code) {
        for (String line : code.split("\n")) {
            if (line.matches(".*\\bnew\\b.*")) {
                boolean field = line.matches("\\s*(private |final |static )+\\w+(\\[\\])? \\w+ = new .*;");
                boolean history = line.trim().equals("ring[i] = new State();");
                Check.that("new stands in a constructor: " + line, field || history || line.contains("throw new "), true);
            }
        }
    }

    private static void methodsAreShort(String code) {
        String[] lines = code.split("\n");
        for (int i = 0; i < lines.length; i++) {
            if (lines[i].matches("( {4}| {8})\\w[^=;]*\\)[^=;]*\\{")) {
                String end = lines[i].replaceAll("\\S.*", "") + "}";
                int last = i;
                while (last < lines.length && !lines[last].equals(end)) {
                    last++;
                }
                Check.that("at most sixty lines: " + lines[i].trim(), last - i <= 60, true);
            }
        }
    }
}
