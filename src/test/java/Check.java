import java.io.IOException;
import java.nio.file.Files;
import java.nio.file.Path;

/** Compares answers with those that are due, and makes engines whose routes are read. */
final class Check {
    /** The place of the first error of a text that has none. */
    static final int RIGHT = -1;

    private static final Path DOCUMENT = Path.of("..", "shared", "DOC.md");

    private final String document = document();
    private String words = "";
    private int wrong;
    private int made;

    private static String document() {
        try {
            return Files.exists(DOCUMENT) ? inOneLine(Files.readString(DOCUMENT)) : "";
        } catch (IOException e) {
            throw new IllegalStateException(e);
        }
    }

    private static String inOneLine(String text) {
        return text.replaceAll("\\s+", " ");
    }

    /** What is compared from here on is what these words of the document ask for. */
    void says(String words) {
        this.words = words;
        if (!document.isEmpty() && !document.contains(inOneLine(words))) {
            tell("these words do not stand in " + DOCUMENT);
        }
    }

    private void tell(String fault) {
        wrong++;
        if (!words.isEmpty()) {
            System.out.println("\"" + words + "\"");
        }
        System.out.println("  " + fault + " (" + caller() + ")");
    }

    private static StackTraceElement caller() {
        for (StackTraceElement call : new Throwable().getStackTrace()) {
            if (!call.getClassName().equals(Check.class.getName())) {
                return call;
            }
        }
        throw new IllegalStateException("nobody called");
    }

    void due(String call, long got, long want) {
        made++;
        if (got != want) {
            tell(call + " answered " + got + ", due is " + want);
        }
    }

    void yes(String call, boolean got) {
        due(call, got ? 1 : 0, 1);
    }

    void no(String call, boolean got) {
        due(call, got ? 1 : 0, 0);
    }

    void same(String what, String got, String want) {
        made++;
        if (!got.equals(want)) {
            tell(what + ": [" + got + "], due is [" + want + "]");
        }
    }

    /** An engine with these texts for the routes 0, 1, .., which must have no error. */
    Engine engine(String... texts) {
        Engine x = new Engine();
        write(x, texts);
        due("read() of " + String.join(" ", texts), x.read(), 0);
        return x;
    }

    void write(Engine x, String... texts) {
        for (int r = 0; r < texts.length; r++) {
            yes("clear(" + r + ")", x.clear(r));
            append(x, r, texts[r]);
        }
    }

    void append(Engine x, int r, String text) {
        for (char c : text.toCharArray()) {
            yes("put(" + r + ", " + c + ")", x.put(r, c));
        }
    }

    /** The text, alone in route r of a new object, has its first error at this place, or is RIGHT. */
    void error(int r, String text, int place) {
        Engine x = new Engine();
        append(x, r, text);
        due("read() of " + text + " as route " + r, x.read(), place == RIGHT ? 0 : 100 * (r + 1) + place);
    }

    /** What the text, as route 0 of a new object, makes of body and key: as body/key. */
    void makes(String text, int body, int key, String want) {
        Engine x = engine(text + "!0");
        due("send through " + text, x.send(0, body, key), 1);
        same(text + " of " + body + "/" + key, got(x, 0), want);
    }

    /** The deliveries that an endpoint got, the latest last, each as body/key. */
    static String got(Engine x, int d) {
        StringBuilder all = new StringBuilder();
        for (int k = Math.min(x.delivered(d), 8) - 1; k >= 0; k--) {
            all.append(all.length() == 0 ? "" : " ").append(x.body(d, k)).append('/').append(x.key(d, k));
        }
        return all.toString();
    }

    void got(Engine x, int d, String want) {
        same("deliveries to " + d, got(x, d), want);
    }

    /** The counts 0 .. 12, with a blank between them. */
    static String counts(Engine x) {
        StringBuilder all = new StringBuilder();
        for (int what = 0; what <= 12; what++) {
            all.append(what == 0 ? "" : " ").append(x.count(what));
        }
        return all.toString();
    }

    void counts(Engine x, String want) {
        same("counts", counts(x), want);
    }

    /** The open groups, each as key/sum/members/due. */
    static String groups(Engine x) {
        StringBuilder all = new StringBuilder();
        int open = x.count(10);
        for (int i = 0; i < open; i++) {
            all.append(i == 0 ? "" : " ").append(x.group(i, 0)).append('/').append(x.group(i, 1));
            all.append('/').append(x.group(i, 2)).append('/').append(x.group(i, 3));
        }
        return all.toString();
    }

    void groups(Engine x, String want) {
        same("groups", groups(x), want);
    }

    void end() {
        System.out.println(wrong == 0 ? made + " answers are as due" : wrong + " of " + made + " answers are not as due");
        if (wrong != 0) {
            System.exit(1);
        }
    }
}
