import java.io.IOException;
import java.nio.file.Files;
import java.nio.file.Path;

/** Counts the calls whose answer is not the one that is due, and prints them. */
final class Due {
    private static final Path DOCUMENT = Path.of("../shared/DOC.md");

    private final String test;
    private String document = "";
    private String run = "";
    private int wrong = 0;

    Due(String test) {
        this.test = test;
    }

    void run(String name) {
        run = name;
    }

    /** A run that tests one sentence, in the document's own words; one that is not there is wrong, too. */
    void sentence(String words) {
        run("'" + words + "'");
        is("the document has it", document().contains(words) ? 1 : 0, 1);
    }

    private String document() {
        if (document.isEmpty()) {
            try {
                document = Files.readString(DOCUMENT).replaceAll("\\s+", " ");
            } catch (IOException e) {
                document = "no document: " + e;
            }
        }
        return document;
    }

    void is(String call, long got, long want) {
        if (got != want) {
            wrong++;
            System.out.println(test + ", " + run + ": " + call + " answered " + got + ", due is " + want);
        }
    }

    /** The octets from an address on. */
    void octets(ZInput z, int at, int... want) {
        for (int i = 0; i < want.length; i++) {
            is("at(" + (at + i) + ")", z.at(at + i), want[i]);
        }
    }

    /** The CODES of the READ, and that it has no more. */
    void typed(ZInput z, String want) {
        is("told(1)", z.told(1), want.length());
        for (int i = 0; i < want.length(); i++) {
            is("typed(" + i + ")", z.typed(i), want.charAt(i));
        }
    }

    /** LINE k of those that are kept, and that it has no more CODES. */
    void kept(ZInput z, int k, String want) {
        for (int i = 0; i < want.length(); i++) {
            is("kept(" + k + ", " + i + ")", z.kept(k, i), want.charAt(i));
        }
        is("kept(" + k + ", " + want.length() + ")", z.kept(k, want.length()), ZInput.BAD);
    }

    /** Lays octets into MEMORY, up to eight a call. */
    static void lay(ZInput z, int at, int... octets) {
        for (int i = 0; i < octets.length; i += 8) {
            int n = Math.min(8, octets.length - i);
            long v = 0;
            for (int j = 0; j < n; j++) {
                v = v * 256 + octets[i + j];
            }
            z.put(at + i, n, v);
        }
    }

    static void lay(ZInput z, int at, String text) {
        int[] octets = new int[text.length()];
        for (int i = 0; i < octets.length; i++) {
            octets[i] = text.charAt(i);
        }
        lay(z, at, octets);
    }

    static void press(ZInput z, String keys) {
        for (int i = 0; i < keys.length(); i++) {
            z.key(keys.charAt(i));
        }
    }

    void end() {
        System.out.println(wrong == 0 ? "all answers are as due" : wrong + " answers are not as due");
        if (wrong != 0) {
            System.exit(1);
        }
    }
}
