import java.io.IOException;
import java.lang.reflect.Field;
import java.lang.reflect.Method;
import java.lang.reflect.Modifier;
import java.nio.charset.StandardCharsets;
import java.nio.file.Files;
import java.nio.file.Path;
import java.util.ArrayList;
import java.util.Arrays;
import java.util.List;
import java.util.regex.Matcher;
import java.util.regex.Pattern;

/** The rules of LANGUAGE.md that can be seen in the text of the class, or by reflection. */
public final class LanguageTest extends LobbyTest {
    private static final Path SOURCE = Path.of("src", "main", "java", "LobbyMaker.java");

    /** What may not stand in the code: the rule and a pattern of it. */
    private static final String[][] FORBIDDEN = {
        {"1", "^\\s*package\\b"},
        {"2", "->|::"},
        {"3", "\\b(HashMap|Map|Set|Deque|Object|Long|Optional|Stream|var|double|float)\\b"},
        {"3", "\\bMath\\.(random|sqrt|pow|floor|ceil|round)\\b"},
        {"4", "Exact\\b|\\bString\\.(format|valueOf|join)|\\bSystem\\.(out|err|in|nano|current)|\\bCollections\\b"},
        {"5", "\\bstatic\\s*\\{"},
        {"6", "\\b(try|catch|finally|synchronized|assert|equals|hashCode|toString|getMessage)\\b"},
        {"6", "\\bthrow\\b(?! new (IllegalStateException|IllegalArgumentException|IndexOutOfBoundsException)\\(\"[^\"]+\"\\);)"},
        {"9", "while \\(true\\)|for \\(;;\\)"},
        {"10", "\"\\s*\\+|\\+\\s*\""},
        {"12", "for \\([^;]*:"},
        {"13", "\\b(Random|Thread|Clock|Instant|File|Socket|getenv|getProperty)\\b"},
    };

    private static String withoutComments(String text) {
        return text.replaceAll("(?s)/\\*.*?\\*/", "").replaceAll("//[^\n]*", "");
    }

    private static void imports(String code) {
        List<String> found = new ArrayList<>();
        Matcher m = Pattern.compile("(?m)^import (.*);").matcher(code);
        while (m.find()) {
            found.add(m.group(1));
        }
        List<String> allowed = Arrays.asList("java.util.ArrayList", "java.util.List", "java.util.Arrays",
                "java.util.Iterator", "java.util.NoSuchElementException");
        if (!allowed.containsAll(found)) {
            fail("rule 4: imports " + found);
        }
    }

    private static void signs(String text) {
        for (int i = 0; i < text.length(); i++) {
            char c = text.charAt(i);
            if (c > 126 || c < 32 && c != '\n') {
                fail("rule 4: the sign " + (int) c + " at " + i);
            }
        }
    }

    private static void forbidden(String code) {
        for (String[] rule : FORBIDDEN) {
            Matcher m = Pattern.compile(rule[1], Pattern.MULTILINE).matcher(code);
            while (m.find()) {
                int line = code.substring(0, m.start()).split("\n", -1).length;
                fail("rule " + rule[0] + ": '" + m.group() + "' in the line " + line + " of the code without comments");
            }
        }
    }

    /** Sixty lines are the most; a method begins and ends at the indentation of its class's members. */
    private static void lengths(String text) {
        String[] lines = text.split("\n", -1);
        int start = -1;
        String end = "";
        for (int i = 0; i < lines.length; i++) {
            String line = lines[i];
            boolean opens = line.endsWith("{") && line.contains(")") && line.matches("( {4}| {8})\\S.*");
            if (start < 0 && opens && !line.trim().matches("(if|for|while|switch|else|\\}).*")) {
                start = i;
                end = line.substring(0, line.length() - line.stripLeading().length()) + "}";
            } else if (start >= 0 && line.equals(end)) {
                if (i - start > 60) {
                    fail("rule 11: the method at the line " + (start + 1) + " has " + (i - start) + " lines");
                }
                start = -1;
            }
        }
    }

    private static void sizes() {
        List<Class<?>> all = new ArrayList<>(Arrays.asList(LobbyMaker.class.getDeclaredClasses()));
        all.add(LobbyMaker.class);
        if (all.size() > 12) {
            fail("rule 11: " + all.size() + " classes");
        }
        for (Class<?> c : all) {
            int fields = 0;
            for (Field f : c.getDeclaredFields()) {
                fields += Modifier.isStatic(f.getModifiers()) ? 0 : 1;
            }
            if (fields > 20) {
                fail("rule 11: " + fields + " fields of " + c);
            }
            for (Method m : c.getDeclaredMethods()) {
                if (m.getParameterCount() > 7) {
                    fail("rule 11: " + m.getParameterCount() + " parameters of " + m);
                }
                if (m.isSynthetic()) {
                    fail("rule 2: the compiler had to make " + m);
                }
            }
        }
    }

    public static void main(String[] args) throws IOException {
        String text = Files.readString(SOURCE, StandardCharsets.UTF_8);
        String code = withoutComments(text);
        imports(code);
        signs(text);
        forbidden(code);
        lengths(text);
        sizes();
        end("the rules are kept", "breaches of the rules");
    }
}
