import java.io.IOException;
import java.nio.file.Files;
import java.nio.file.Path;
import java.util.function.IntSupplier;

/** What the tests share: answers held against what is due, and texts typed as a whole. */
final class Check {
    private static final int MOST_PRINTED = 40;
    private static final Path DOCUMENT = Path.of("../shared/DOC.md");
    private int asked = 0;
    private int wrong = 0;
    private String part = "";
    private String document;

    void part(String name) {
        part = name;
    }

    /** The answers that follow are a test of these words of the document, which must stand there. */
    void sentence(String words) {
        part = words;
        if (document == null) {
            document = document();
        }
        isTrue("the document says this", document.isEmpty() || document.contains(words));
    }

    private static String document() {
        try {
            return Files.exists(DOCUMENT) ? Files.readString(DOCUMENT) : "";
        } catch (IOException unreadable) {
            return "";
        }
    }

    void due(String call, long got, long want) {
        asked++;
        if (got != want) {
            wrong(call + " answered " + got + ", due is " + want);
        }
    }

    void dueFrom(String call, IntSupplier got, long want) {
        try {
            due(call, got.getAsInt(), want);
        } catch (Throwable thrown) {
            asked++;
            wrong(call + " threw " + thrown + ", due is " + want);
        }
    }

    void isTrue(String claim, boolean holds) {
        asked++;
        if (!holds) {
            wrong("not so: " + claim);
        }
    }

    private void wrong(String what) {
        wrong++;
        if (wrong <= MOST_PRINTED) {
            System.out.println(part + ": " + what);
        }
    }

    void same(String what, String got, String want) {
        asked++;
        if (!got.equals(want)) {
            wrong(what + " is " + got + ", due is " + want);
        }
    }

    boolean anyWrong() {
        return wrong != 0;
    }

    void end() {
        System.out.println(wrong == 0 ? asked + " answers are as due" : wrong + " of " + asked + " answers are not as due");
        if (wrong != 0) {
            System.exit(1);
        }
    }

    static void type(GroundEdges ground, String text) {
        for (int i = 0; i < text.length(); i++) {
            ground.type(text.charAt(i));
        }
    }

    /** A text is typed and told: what tells() answered. THE TEXT is empty afterwards, in any case. */
    static int tell(GroundEdges ground, String text) {
        ground.clear();
        type(ground, text);
        int answer = ground.tells();
        ground.clear();
        return answer;
    }

    static GroundEdges told(String text) {
        GroundEdges ground = new GroundEdges();
        int answer = tell(ground, text);
        if (answer < 0) {
            throw new IllegalStateException(text + " was answered by " + answer);
        }
        return ground;
    }

    /** The heights of a map, row by row, as the text has them, with a blank between rows. */
    static String map(GroundEdges ground) {
        StringBuilder rows = new StringBuilder();
        for (int y = 0; y < ground.count(1); y++) {
            rows.append(y == 0 ? "" : " ");
            for (int x = 0; x < ground.count(0); x++) {
                rows.append(ground.cell(x, y, 0));
            }
        }
        return rows.toString();
    }

    static String fixedCells(GroundEdges ground) {
        StringBuilder rows = new StringBuilder();
        for (int y = 0; y < ground.count(1); y++) {
            rows.append(y == 0 ? "" : " ");
            for (int x = 0; x < ground.count(0); x++) {
                rows.append(ground.cell(x, y, 1));
            }
        }
        return rows.toString();
    }

    void map(String when, GroundEdges ground, String want) {
        same(when + ": the map", map(ground), want);
    }

    void fixed(String when, GroundEdges ground, String want) {
        same(when + ": what is fixed", fixedCells(ground), want);
    }
}
