import java.io.IOException;
import java.nio.file.Files;
import java.nio.file.Path;

/** Counts answers that are due, and tells those that are not as due. */
final class Due {
    private static final int MOST_TOLD = 40;
    private final String name;
    private String document = "";
    private String sentence = "";
    private int right = 0;
    private int wrong = 0;

    Due(String name) {
        this.name = name;
    }

    void is(int promise, String what, long got, long want) {
        if (got == want) {
            right++;
            return;
        }
        wrong++;
        if (wrong > MOST_TOLD) return;
        System.out.println(name + ", promise " + promise + ": " + what + " answered " + got + ", due is " + want);
        if (!sentence.isEmpty()) System.out.println("    \"" + sentence + "\"");
    }

    /** The document's sentence that the next answers hold: it must stand there word by word. */
    void sentence(String quoted) {
        if (document.isEmpty()) document = readDocument();
        sentence = quoted;
        if (document.contains(quoted)) return;
        wrong++;
        System.out.println(name + ": the document does not say \"" + quoted + "\"");
    }

    private static String readDocument() {
        try {
            return Files.readString(Path.of("../shared/DOC.md")).replaceAll("\\s+", " ");
        } catch (IOException e) {
            throw new IllegalStateException("run it from the project's folder", e);
        }
    }

    void end() {
        System.out.println(name + ": " + right + " passed, " + wrong + " failed");
        if (wrong != 0) System.exit(1);
    }

    /** Makes a BICYCLE have six NUMBERS. */
    static void make(SelfSteer steer, int i, int... numbers) {
        for (int k = 0; k < numbers.length; k++) steer.number(i, k, numbers[k]);
    }

    /** A new object whose BICYCLE 0 has these NUMBERS. */
    static SelfSteer one(int... numbers) {
        SelfSteer steer = new SelfSteer();
        make(steer, 0, numbers);
        return steer;
    }

    /** Types a text, eight bytes at a time: how many bytes THE TEXT has. */
    static int type(SelfSteer steer, String text) {
        int has = steer.count(1);
        for (int from = 0; from < text.length(); from += 8) {
            int to = Math.min(text.length(), from + 8);
            long v = 0;
            for (char c : text.substring(from, to).toCharArray()) v = v << 8 | c;
            has = steer.type(v, to - from);
        }
        return has;
    }

    /** The answer of rider() to a text alone. */
    static int rider(SelfSteer steer, String text) {
        steer.clear();
        type(steer, text);
        return steer.rider();
    }
}
