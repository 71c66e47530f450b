import java.io.IOException;
import java.lang.reflect.Constructor;
import java.lang.reflect.Field;
import java.lang.reflect.Method;
import java.lang.reflect.Modifier;
import java.nio.charset.StandardCharsets;
import java.nio.file.Files;
import java.nio.file.Paths;
import java.util.regex.Matcher;
import java.util.regex.Pattern;

/** Those rules of LANGUAGE.md that can be told from the class and its text. */
public final class RulesOfLanguage {
    private static final String FACE = " about book costs days dead end fault feed forged fort judge land later merchant pan paper ran reform run"
        + " town untell way weather worth ";

    public static void main(String[] args) throws IOException {
        face();
        nested();
        text(new String(Files.readAllBytes(Paths.get("src/main/java/SaltOffice.java")), StandardCharsets.ISO_8859_1));
        Check.done();
    }

    private static void face() {
        int methods = 0;
        for (Method m : SaltOffice.class.getDeclaredMethods()) {
            boolean named = FACE.contains(" " + m.getName() + " ");
            Check.due("rule 1: " + m.getName(), Modifier.isPublic(m.getModifiers()) ? named : !named && Modifier.isPrivate(m.getModifiers()), true);
            methods += Modifier.isPublic(m.getModifiers()) ? 1 : 0;
        }
        Check.due("public methods", methods, 24);
        for (Field f : SaltOffice.class.getDeclaredFields()) {
            Check.due("rule 1: " + f.getName(), f.getName().equals("NONE") ? Modifier.isPublic(f.getModifiers()) : Modifier.isPrivate(f.getModifiers()), true);
        }
        for (Constructor<?> c : SaltOffice.class.getDeclaredConstructors()) {
            Check.due("rule 1: constructor", Modifier.isPublic(c.getModifiers()) && c.getParameterCount() == 0, true);
        }
        Check.due("final", Modifier.isFinal(SaltOffice.class.getModifiers()), true);
    }

    private static void nested() {
        Class<?>[] all = SaltOffice.class.getDeclaredClasses();
        Check.due("rule 11: classes", all.length <= 12, true);
        for (Class<?> c : all) {
            Check.due("rule 2: " + c.getName(), Modifier.isStatic(c.getModifiers()), true);
            int fields = 0;
            for (Field f : c.getDeclaredFields()) {
                fields += Modifier.isStatic(f.getModifiers()) ? 0 : 1;
            }
            Check.due("rule 11: fields of " + c.getName(), fields <= 20, true);
            for (Method m : c.getDeclaredMethods()) {
                Check.due("rule 1: " + m.getName(), FACE.contains(" " + m.getName() + " "), false);
                Check.due("rule 11: parameters of " + m.getName(), m.getParameterCount() <= 7, true);
            }
        }
    }

    private static void text(String source) {
        String code = source.replaceAll("(?s)/\\*.*?\\*/", "").replaceAll("//[^\n]*", "");
        String[] never = {"\\bthrow\\b", "\\btry\\b", "\\bcatch\\b", "\\bsynchronized\\b", "\\bassert\\b", "->", "::", "Exact\\(", "\\bpackage\\b",
            "\\bstatic \\{", "System\\.(?!arraycopy)", "Arrays\\.(?!fill|copyOf|copyOfRange)[a-z]", "\" \\+", "\\+ \""};
        for (String word : never) {
            Matcher m = Pattern.compile(word).matcher(code.replace("import java.util.Arrays;", ""));
            Check.due("no " + word, m.find(), false);
        }
        Matcher imports = Pattern.compile("import ([^;]*);").matcher(code);
        while (imports.find()) {
            Check.due("rule 4: " + imports.group(1), imports.group(1).equals("java.util.Arrays"), true);
        }
        int lines = 0;
        boolean inside = false;
        for (String line : code.split("\n")) {
            if (!inside && line.matches(" {4,8}[a-z].*\\) \\{") && !line.contains(" class ")) {
                inside = true;
                lines = 0;
            }
            lines++;
            if (inside && line.matches(" {4,8}\\}")) {
                inside = false;
                Check.due("rule 11: a method of " + lines + " lines", lines <= 60, true);
            }
        }
    }
}
