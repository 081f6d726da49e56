import java.io.IOException;
import java.nio.charset.StandardCharsets;
import java.nio.file.Files;
import java.nio.file.Path;
import java.util.regex.Matcher;
import java.util.regex.Pattern;

/** The rules of LANGUAGE.md that can be seen in the source; its path is the first argument. */
public final class RulesTest {
    private static final String[] BANNED = {
        "\\b(throw|throws|try|catch|finally|synchronized|assert|package|protected|native|volatile|transient|hashCode)\\b",
        "\\bimport\\s+(?!java\\.util\\.(ArrayList|List|Arrays|Iterator);)", "::", "(?m)^(?!\\s*(case|default)\\b).*->",
        "@(?!Override\\b)\\w", "\\bnew\\s+\\w+\\s*\\([^)]*\\)\\s*\\{",
        "\\b(Object|Throwable|Exception|Error|System\\.(?!arraycopy)\\w+|Thread|Runtime|Class)\\b",
        "\\bwhile\\s*\\(\\s*true|\\bfor\\s*\\(\\s*;\\s*;", "\\[\\]\\s*\\[\\]\\s*\\[\\]"};
    private static final int MOST_LINES = 60;
    private static final int MOST_PARAMETERS = 7;
    private static final int MOST_CLASSES = 12;
    private static final int MOST_FIELDS = 20;
    private static final Pattern METHOD =
        Pattern.compile("(?m)^( +)(?:[\\w\\[\\]]+ )+(\\w+)\\(([^()]*)\\) \\{$");

    public static void main(String[] args) throws IOException {
        byte[] bytes = Files.readAllBytes(Path.of(args[0]));
        String source = new String(bytes, StandardCharsets.ISO_8859_1);
        for (byte one : bytes) {
            Check.due("a sign of the source", one == '\n' || one >= 32 && one < 127 ? 1 : 0, 1);
        }
        String code = withoutComments(source);
        for (String banned : BANNED) {
            Matcher matcher = Pattern.compile(banned).matcher(code);
            Check.due("banned: " + banned + (matcher.find() ? " at " + matcher.start() : ""),
                matcher.reset().find() ? 1 : 0, 0);
        }
        methods(code);
        classes();
        Check.end();
    }

    private static String withoutComments(String source) {
        return source.replaceAll("(?s)/\\*.*?\\*/", "").replaceAll("//[^\n]*", "");
    }

    private static void methods(String code) {
        Matcher method = METHOD.matcher(code);
        int found = 0;
        while (method.find()) {
            found++;
            int end = code.indexOf("\n" + method.group(1) + "}", method.start());
            long lines = code.substring(method.start(), end).lines().count() + 1;
            Check.due(method.group(2) + " has " + lines + " lines", lines <= MOST_LINES ? 1 : 0, 1);
            int parameters = method.group(3).isEmpty() ? 0 : method.group(3).split(",").length;
            Check.due(method.group(2) + " has " + parameters + " parameters", parameters <= MOST_PARAMETERS ? 1 : 0, 1);
        }
        Check.due("methods were found", found > 20 ? 1 : 0, 1);
    }

    private static void classes() {
        Class<?>[] all = CanalSteps.class.getDeclaredClasses();
        Check.due("classes: " + (all.length + 1), all.length + 1 <= MOST_CLASSES ? 1 : 0, 1);
        fields(CanalSteps.class);
        for (Class<?> one : all) {
            fields(one);
        }
    }

    private static void fields(Class<?> one) {
        int found = 0;
        for (java.lang.reflect.Field field : one.getDeclaredFields()) {
            boolean isStatic = java.lang.reflect.Modifier.isStatic(field.getModifiers());
            boolean isFinal = java.lang.reflect.Modifier.isFinal(field.getModifiers());
            found += isStatic ? 0 : 1;
            Check.due(field + " is static and not final", isStatic && !isFinal ? 1 : 0, 0);
        }
        Check.due(one + " has " + found + " fields", found <= MOST_FIELDS ? 1 : 0, 1);
    }
}
