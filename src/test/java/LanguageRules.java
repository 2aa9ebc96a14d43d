import java.lang.reflect.Constructor;
import java.lang.reflect.Field;
import java.lang.reflect.Method;
import java.lang.reflect.Modifier;
import java.nio.file.Files;
import java.nio.file.Path;
import java.util.ArrayList;
import java.util.List;
import java.util.Set;
import java.util.TreeSet;
import java.util.regex.Matcher;
import java.util.regex.Pattern;

/** The rules of ../shared/LANGUAGE.md that the class or its text shows. Runs from the project's folder. */
public final class LanguageRules {
    private static final Due due = new Due("LanguageRules");
    private static final List<Class<?>> classes = new ArrayList<>();

    private static void none(int rule, String what, String text, String pattern) {
        Matcher m = Pattern.compile(pattern).matcher(text);
        boolean found = m.find();
        due.is(1, "rule " + rule + ", " + what + (found ? ": " + m.group() : ""), found ? 1 : 0, 0);
    }

    /** The source without comments and with empty texts and signs. */
    private static String bare(String source) {
        return source.replaceAll("(?s)/\\*.*?\\*/", "").replaceAll("//[^\n]*", "")
                .replaceAll("\"[^\"\n]*\"", "\"\"").replaceAll("'[^'\n]'", "' '");
    }

    private static String signature(Method m) {
        StringBuilder s = new StringBuilder(m.getReturnType().getName() + " " + m.getName() + "(");
        for (Class<?> p : m.getParameterTypes()) s.append(p.getName()).append(',');
        return s.append(')').toString();
    }

    private static Set<String> faceOfDocument(String document) {
        Set<String> face = new TreeSet<>();
        Matcher m = Pattern.compile("public (int|long) (\\w+)\\(([^)]*)\\);").matcher(document);
        while (m.find()) {
            StringBuilder s = new StringBuilder(m.group(1) + " " + m.group(2) + "(");
            for (String p : m.group(3).split(",")) if (!p.isBlank()) s.append(p.trim().split(" ")[0]).append(',');
            face.add(s.append(')').toString());
        }
        return face;
    }

    private static void face(String document) {
        Set<String> mine = new TreeSet<>(), names = new TreeSet<>();
        for (Method m : SelfSteer.class.getDeclaredMethods()) {
            if (Modifier.isPrivate(m.getModifiers())) continue;
            due.is(1, "rule 1, public: " + m, Modifier.isPublic(m.getModifiers()) ? 1 : 0, 1);
            mine.add(signature(m));
            names.add(m.getName());
        }
        Set<String> theirs = faceOfDocument(document);
        due.is(1, "rule 1, the face " + mine + " " + theirs, mine.equals(theirs) ? 1 : 0, 1);
        due.is(1, "28 methods", mine.size(), 28);
        Set<String> fields = new TreeSet<>();
        for (Field f : SelfSteer.class.getDeclaredFields()) if (!Modifier.isPrivate(f.getModifiers())) fields.add(f.getName());
        due.is(1, "rule 1, the constants " + fields, fields.equals(Set.of("BAD", "STATE", "FULL", "NONE", "NO")) ? 1 : 0, 1);
        for (Constructor<?> c : SelfSteer.class.getDeclaredConstructors())
            due.is(1, "rule 1, the constructor", Modifier.isPublic(c.getModifiers()) ? c.getParameterCount() : 1, 0);
        for (Class<?> c : classes)
            for (Method m : c.getDeclaredMethods())
                if (c != SelfSteer.class || Modifier.isPrivate(m.getModifiers()))
                    due.is(1, "rule 1, a name of the face: " + m, names.contains(m.getName()) ? 1 : 0, 0);
    }

    private static void shapes() {
        due.is(1, "rule 11, classes", classes.size() <= 12 ? 1 : 0, 1);
        for (Class<?> c : classes) {
            int fields = 0;
            due.is(1, "rule 2, static: " + c, c == SelfSteer.class || Modifier.isStatic(c.getModifiers()) ? 1 : 0, 1);
            for (Field f : c.getDeclaredFields()) {
                if (Modifier.isStatic(f.getModifiers())) due.is(1, "rule 5, final: " + f, Modifier.isFinal(f.getModifiers()) ? 1 : 0, 1);
                else fields++;
            }
            due.is(1, "rule 11, fields of " + c, fields <= 20 ? 1 : 0, 1);
            for (Method m : c.getDeclaredMethods()) {
                due.is(1, "rule 11, parameters of " + m, m.getParameterCount() <= 7 ? 1 : 0, 1);
                due.is(1, "rule 2, no lambda or bridge: " + m, m.isSynthetic() ? 1 : 0, 0);
            }
        }
    }

    /** Methods stay short; and what is made is made with the object. */
    private static void lengthsAndMaking(String text) {
        String[] lines = text.split("\n");
        int from = 0;
        for (int n = 0; n < lines.length; n++) {
            if (lines[n].matches(" +(public|private) [^=;]*\\) \\{")) from = n;
            if (n - from > 60 && lines[n].matches(" +\\w.*\\(.*;")) due.is(1, "rule 11, long from line " + (from + 1), 1, 0);
            if (!lines[n].contains("new ")) continue;
            boolean field = lines[n].matches(" +private (final )?\\S+ \\w+ = new .*;");
            boolean constructor = lines[from].matches(" +(public|private) [A-Z]\\w*\\(\\) \\{");
            due.is(1, "rule 12, made by a call: " + lines[n].trim(), field || constructor ? 1 : 0, 1);
        }
    }

    public static void main(String[] args) throws Exception {
        String source = Files.readString(Path.of("src/main/java/SelfSteer.java"));
        String document = Files.readString(Path.of("../shared/DOC.md"));
        classes.add(SelfSteer.class);
        for (Class<?> c : SelfSteer.class.getDeclaredClasses()) classes.add(c);
        String text = bare(source);
        none(1, "a package", text, "(?m)^package ");
        none(4, "an import or another library", text, "\\bimport\\b|\\bjava\\.");
        none(4, "functions whose names end in Exact", text, "Exact\\(");
        none(4, "print", text, "System\\.(?!arraycopy)\\w+");
        none(6, "what is not in the language", text, "\\b(throw|throws|try|catch|finally|synchronized|assert|protected|native|volatile|var|yield)\\b");
        none(2, "lambdas and references", text, "->|::");
        none(2, "boxes and doubles", text, "\\b(double|float|Object|Double|Boolean)\\b");
        none(5, "a static block", text, "static \\{");
        none(6, "equals and its like", text, "\\b(equals|hashCode|toString)\\(");
        none(10, "texts joined by +", text, "\"\"\\s*\\+|\\+\\s*\"\"");
        none(3, "signs beyond 127", source, "[^\\x00-\\x7f]");
        face(document);
        shapes();
        lengthsAndMaking(text);
        due.end();
    }
}
