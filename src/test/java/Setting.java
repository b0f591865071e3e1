/** What tests lay into MEMORY, and READS that they begin; none of it is of a test's own matter. */
final class Setting {
    static final int TEXT = 100;
    static final int PARSED = 600;
    static final int TABLE = 950;
    static final int DICTIONARY = 1000;
    private static final int SCRATCH = 3000;

    private Setting() {
    }

    /** A DICTIONARY whose ENTRIES are the words, PACKED; the address of the first. */
    static int dictionary(ZInput z, int d, String separators, int size, String... words) {
        int entries = d + separators.length() + 4;
        z.put(d, 1, separators.length());
        Due.lay(z, d + 1, separators);
        z.put(entries - 3, 1, size);
        z.put(entries - 2, 2, words.length);
        for (int i = 0; i < words.length; i++) {
            word(z, entries + i * size, words[i]);
        }
        return entries;
    }

    /** A PACKED word. */
    static void word(ZInput z, int at, String word) {
        Due.lay(z, SCRATCH, word);
        z.pack(SCRATCH, word.length(), at);
    }

    /** A TEXT as its version holds it. */
    static void text(ZInput z, int version, int t, String codes) {
        if (version <= 4) {
            Due.lay(z, t + 1, codes);
            z.put(t + 1 + codes.length(), 1, 0L);
        } else {
            z.put(t + 1, 1, codes.length());
            Due.lay(z, t + 2, codes);
        }
    }

    /** An object whose READ goes on at TEXT, with room for so many CODES; it is not PARSED. */
    static ZInput reading(int version, int most) {
        ZInput z = new ZInput(version);
        z.put(TEXT, 1, version <= 4 ? most + 1 : most);
        z.begin(TEXT, 0);
        return z;
    }

    /** A READ as reading's, behind it; it begins without CODES. */
    static void again(ZInput z, int p) {
        z.put(TEXT + 1, 1, 0L);
        z.begin(TEXT, p);
    }

    /** READS one after the other, a LINE each, and the next one begun. */
    static void lines(ZInput z, String... lines) {
        for (String line : lines) {
            Due.press(z, line);
            z.key(13);
            again(z, 0);
        }
    }
}
