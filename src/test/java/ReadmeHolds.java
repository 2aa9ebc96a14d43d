import java.io.IOException;
import java.lang.reflect.Method;
import java.lang.reflect.Modifier;
import java.nio.file.Files;
import java.nio.file.Path;
import java.util.List;
import java.util.Map;
import java.util.TreeMap;
import java.util.regex.Matcher;
import java.util.regex.Pattern;
import java.util.stream.Collectors;
import java.util.stream.Stream;

/** README.md: the run that it shows answers as it says, and it names every call and every test. */
public final class ReadmeHolds {
    private static final Pattern CALL = Pattern.compile("steer\\.(\\w+)\\(([^)]*)\\);\\s*// (-?\\w+)");
    private static final Due due = new Due("ReadmeHolds");
    private static final Map<String, Method> face = new TreeMap<>();

    private static long answerTold(String told) throws ReflectiveOperationException {
        boolean named = Character.isLetter(told.charAt(0));
        return named ? SelfSteer.class.getField(told).getInt(null) : Long.parseLong(told);
    }

    private static long call(SelfSteer steer, String name, String arguments) throws ReflectiveOperationException {
        Method method = face.get(name);
        String[] told = arguments.isEmpty() ? new String[0] : arguments.split(", ");
        Object[] given = new Object[told.length];
        for (int n = 0; n < told.length; n++) {
            long value = Long.decode(told[n].replace("L", ""));
            boolean wide = method.getParameterTypes()[n] == long.class;
            given[n] = wide ? (Object) value : (Object) (int) value;
        }
        return ((Number) method.invoke(steer, given)).longValue();
    }

    private static void theRunHolds(String readme) throws ReflectiveOperationException {
        SelfSteer steer = new SelfSteer();
        int lines = 0;
        for (String line : readme.split("\n")) {
            if (!line.startsWith("steer.")) continue;
            lines++;
            Matcher shown = CALL.matcher(line);
            boolean read = shown.find() && face.containsKey(shown.group(1));
            due.is(1, "a call and its answer can be read: " + line, read ? 1 : 0, 1);
            if (!read) continue;
            long got = call(steer, shown.group(1), shown.group(2));
            due.is(1, line, got, answerTold(shown.group(3)));
        }
        due.is(1, "the run has calls", lines > 0 ? 1 : 0, 1);
    }

    private static void everyCallIsNamed(String readme, String document) {
        Matcher told = Pattern.compile("public (?:int|long) (\\w+)\\(([^)]*)\\);").matcher(document);
        int calls = 0;
        while (told.find()) {
            calls++;
            String call = told.group(1) + "(" + told.group(2).replaceAll("\\b(int|long) ", "") + ")";
            due.is(1, "named: " + call, readme.contains("`" + call + "`") ? 1 : 0, 1);
        }
        due.is(1, "calls in the document", calls, face.size());
    }

    private static void everyTestIsNamed(String readme) throws IOException {
        List<Path> files;
        try (Stream<Path> all = Files.list(Path.of("src/test/java"))) {
            files = all.sorted().collect(Collectors.toList());
        }
        for (Path file : files) {
            if (!Files.readString(file).contains("public static void main")) continue;
            String name = file.getFileName().toString().replace(".java", "");
            due.is(1, "named: " + name, readme.contains("`" + name + "`") ? 1 : 0, 1);
        }
    }

    public static void main(String[] args) throws Exception {
        String readme = Files.readString(Path.of("README.md"));
        String document = Files.readString(Path.of("../shared/DOC.md"));
        for (Method method : SelfSteer.class.getDeclaredMethods()) {
            if (Modifier.isPublic(method.getModifiers())) face.put(method.getName(), method);
        }
        theRunHolds(readme);
        everyCallIsNamed(readme, document);
        everyTestIsNamed(readme);
        due.is(1, "it says how to run the tests", readme.contains("bash .ci/run") ? 1 : 0, 1);
        due.end();
    }
}
