import java.lang.reflect.Constructor;
import java.lang.reflect.Field;
import java.lang.reflect.Method;
import java.lang.reflect.Modifier;
import java.nio.file.Files;
import java.nio.file.Path;
import java.util.ArrayList;
import java.util.HashSet;
import java.util.List;
import java.util.Set;
import java.util.TreeSet;
import java.util.regex.Matcher;
import java.util.regex.Pattern;

/** The public face, and those rules of LANGUAGE.md that can be seen in the text or the class. */
public final class LanguageTest {
    private static final Path SOURCE = Path.of("src/main/java/GrindField.java");
    private static final String[] FACE = {
        "int record(int, int)", "int wipe()", "int code(int, int, int)", "int clear(int)",
        "int check(int)", "int run(int)", "long result(int, int)", "long valueOf(int)",
        "int count(int)",
    };
    private static final String[] BANNED = {
        "throw", "throws", "try", "catch", "finally", "synchronized", "assert", "volatile",
        "transient", "native", "var", "package", "instanceof", "String", "float", "double",
        "toString", "equals", "hashCode", "System\\.(?!arraycopy)\\w+", "Math\\.\\w+Exact",
        "Arrays\\.(?!fill)\\w+", "->", "::", "@", "\\?\\?", "\"",
    };

    public static void main(String[] args) throws Exception {
        Tester t = new Tester();
        face(t);
        constants(t);
        insideClasses(t);
        String text = withoutComments(Files.readString(SOURCE));
        bannedWords(t, text);
        shortMethods(t, text);
        t.end();
    }

    private static void face(Tester t) {
        Class<?> c = GrindField.class;
        t.due("public final", c.getModifiers(), Modifier.PUBLIC | Modifier.FINAL);
        Set<String> methods = new TreeSet<>();
        Set<String> publicNames = new HashSet<>();
        Set<String> privateNames = new HashSet<>();
        for (Method m : c.getDeclaredMethods()) {
            if (Modifier.isPrivate(m.getModifiers())) {
                privateNames.add(m.getName());
                continue;
            }
            t.due("public " + m, m.getModifiers(), Modifier.PUBLIC);
            methods.add(told(m));
            publicNames.add(m.getName());
        }
        t.due("methods are those of the face", methods.equals(new TreeSet<>(List.of(FACE))) ? 1 : 0, 1);
        privateNames.retainAll(publicNames);
        t.due("private methods with a public name", privateNames.size(), 0);
        Constructor<?>[] constructors = c.getDeclaredConstructors();
        t.due("constructors", constructors.length, 1);
        t.due("public constructor", constructors[0].getModifiers(), Modifier.PUBLIC);
    }

    private static String told(Method m) {
        List<String> types = new ArrayList<>();
        for (Class<?> type : m.getParameterTypes()) {
            types.add(type.getName());
        }
        return m.getReturnType().getName() + " " + m.getName() + "(" + String.join(", ", types) + ")";
    }

    private static void constants(Tester t) {
        t.due("REFUSED", GrindField.REFUSED, -1);
        t.due("NONE", GrindField.NONE, -2);
        t.due("FULL", GrindField.FULL, -3);
        t.due("FAILED", GrindField.FAILED, -4);
        int shown = 0;
        for (Field f : GrindField.class.getDeclaredFields()) {
            if (!Modifier.isPrivate(f.getModifiers())) {
                shown++;
                t.due("constant " + f, f.getModifiers(),
                    Modifier.PUBLIC | Modifier.STATIC | Modifier.FINAL);
            }
        }
        t.due("constants", shown, 4);
    }

    private static void insideClasses(Tester t) {
        Class<?>[] inside = GrindField.class.getDeclaredClasses();
        t.due("few classes", inside.length < 12 ? 1 : 0, 1);
        List<Class<?>> all = new ArrayList<>(List.of(inside));
        all.add(GrindField.class);
        for (Class<?> c : all) {
            boolean isInside = c != GrindField.class;
            if (isInside) {
                t.due("static " + c, c.getModifiers() & Modifier.STATIC, Modifier.STATIC);
                t.due("not public " + c, c.getModifiers() & Modifier.PUBLIC, 0);
            }
            int fields = 0;
            for (Field f : c.getDeclaredFields()) {
                boolean isStatic = Modifier.isStatic(f.getModifiers());
                fields += isStatic ? 0 : 1;
                t.due("final if static: " + f,
                    isStatic && !Modifier.isFinal(f.getModifiers()) ? 1 : 0, 0);
            }
            t.due("few fields in " + c, fields <= 20 ? 1 : 0, 1);
            for (Method m : c.getDeclaredMethods()) {
                t.due("few parameters: " + m, m.getParameterCount() <= 7 ? 1 : 0, 1);
            }
        }
    }

    private static String withoutComments(String text) {
        return text.replaceAll("(?s)/\\*.*?\\*/", "").replaceAll("//[^\n]*", "");
    }

    private static void bannedWords(Tester t, String text) {
        for (String word : BANNED) {
            boolean isWord = Character.isLetter(word.charAt(0));
            Matcher found = Pattern.compile(isWord ? "\\b" + word + "\\b" : word).matcher(text);
            t.due("uses of " + word, found.find() ? 1 : 0, 0);
        }
        Matcher imports = Pattern.compile("import\\s+([^;]+);").matcher(text);
        while (imports.find()) {
            t.due("import " + imports.group(1), imports.group(1).equals("java.util.Arrays") ? 1 : 0, 1);
        }
        t.due("signs of 1 to 127", text.chars().allMatch(sign -> sign >= 1 && sign <= 127) ? 1 : 0, 1);
    }

    /** A method starts at an indented line that ends with ") {" and ends at a brace so indented. */
    private static void shortMethods(Tester t, String text) {
        String[] lines = text.split("\n");
        Pattern start = Pattern.compile("( {4}| {8})\\S.*\\) \\{");
        int seen = 0;
        for (int i = 0; i < lines.length; i++) {
            Matcher m = start.matcher(lines[i]);
            if (!m.matches() || lines[i].trim().matches("(if|for|while|switch|do)\\b.*")) {
                continue;
            }
            seen++;
            int end = i;
            while (end < lines.length && !lines[end].equals(m.group(1) + "}")) {
                end++;
            }
            t.due("lines of " + lines[i].trim() + " at most 60", end - i <= 60 ? 1 : 0, 1);
        }
        t.due("methods were found", seen > 30 ? 1 : 0, 1);
    }
}
