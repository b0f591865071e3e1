/** The edges of the term OUTSIDE: a test for each of its parts; the octet that is MEMORY's last one, and the next. */
final class OutsideEdgesTest {
    private static final Due DUE = new Due("OutsideEdgesTest");
    private static final int T = 2000;
    private static final int P = Setting.PARSED;
    private static final int LAST = 4095;

    public static void main(String[] args) {
        octetsOfACall();
        endingZero();
        codesOfAText();
        firstTwoOfP();
        wordsTold();
        wordsToldWithFlag();
        headOfADictionary();
        entriesOfADictionary();
        packedWordsOfADictionary();
        whateverIsLookedFor();
        DUE.end();
    }

    private static void octetsOfACall() {
        DUE.sentence("OUTSIDE: an octet that a call needs is not within MEMORY:");
        for (int version = 3; version <= 4; version++) {
            ZInput z = new ZInput(version);
            int octets = version == 3 ? 4 : 6;
            for (int n = 1; n <= 8; n++) {
                DUE.is("put, up to the last", z.put(LAST + 1 - n, n, 0L), LAST + 1);
                DUE.is("put, behind it", z.put(LAST + 2 - n, n, 0L), ZInput.OUTSIDE);
                DUE.is("put, before the first", z.put(-1, n, 0L), ZInput.OUTSIDE);
            }
            DUE.is("at, the last", z.at(LAST), 0);
            DUE.is("at, behind it", z.at(LAST + 1), ZInput.OUTSIDE);
            for (int n : new int[] {1, 2, 254, 255}) {
                DUE.is("pack, up to the last", z.pack(LAST + 1 - n, n, 0), octets);
                // The CODES that are cut off are needed, too.
                DUE.is("pack, from behind it", z.pack(LAST + 2 - n, n, 0), ZInput.OUTSIDE);
                DUE.is("look, up to the last", z.look(LAST + 1 - n, n, 100), 0);
                DUE.is("look, from behind it", z.look(LAST + 2 - n, n, 100), ZInput.OUTSIDE);
            }
            DUE.is("pack, to the last", z.pack(0, 0, LAST + 1 - octets), octets);
            DUE.is("pack, to behind it", z.pack(0, 0, LAST + 2 - octets), ZInput.OUTSIDE);
            // No CODES need no octet.
            for (int from : new int[] {-1, LAST + 1, Integer.MIN_VALUE, Integer.MAX_VALUE}) {
                DUE.is("pack, no CODES", z.pack(from, 0, 200), octets);
                DUE.is("look, no CODES", z.look(from, 0, 100), 0);
            }
        }
    }

    private static void endingZero() {
        DUE.sentence("of a TEXT of V 1 to 4 that is PARSED the 0 that ends it,");
        for (int version = 1; version <= 4; version++) {
            for (int t : new int[] {3990, 4000}) {
                ZInput z = new ZInput(version);
                Due.lay(z, t + 1, "x".repeat(LAST - t - 1));
                DUE.is("parse, the 0 is the last octet", z.parse(t, P, 0, false), 1);
                z.put(LAST, 1, 'x');
                DUE.is("parse, there is no 0", z.parse(t, P, 0, false), ZInput.OUTSIDE);
                z.put(t + 1, 1, 0L);
                DUE.is("parse, the 0 is the first", z.parse(t, P, 0, false), 0);
            }
        }
    }

    private static void codesOfAText() {
        DUE.sentence("else its CODES;");
        for (int version = 5; version <= 8; version++) {
            for (int t : new int[] {3840, 3990, 4000}) {
                ZInput z = new ZInput(version);
                int most = Math.min(255, LAST - t - 1);
                z.put(t + 1, 1, most);
                z.put(t + most, 2, 0x2078L);
                DUE.is("parse, up to " + (t + 1 + most), z.parse(t, P, 0, false), 2);
                if (most < 255) {
                    z.put(t + 1, 1, most + 1);
                    DUE.is("parse, the last is behind MEMORY", z.parse(t, P, 0, false), ZInput.OUTSIDE);
                    z.put(t + 1, 1, 255L);
                    DUE.is("parse, 255", z.parse(t, P, 0, false), ZInput.OUTSIDE);
                }
            }
        }
    }

    private static void firstTwoOfP() {
        DUE.sentence("of p the first two,");
        // With p up to 4000 they are always within MEMORY.
        ZInput z = new ZInput(5);
        Setting.text(z, 5, T, "a b");
        z.put(4000, 2, 77L);
        DUE.is("parse into 4000", z.parse(T, 4000, 0, false), 2);
        DUE.octets(z, 4000, 0, 0);
        DUE.is("parse into 4001", z.parse(T, 4001, 0, false), ZInput.BAD);
    }

    private static void wordsTold() {
        DUE.sentence("and four for each WORD that is told");
        outsideByWords(false);
    }

    private static void wordsToldWithFlag() {
        DUE.sentence("(with the flag, too);");
        outsideByWords(true);
    }

    private static void outsideByWords(boolean flag) {
        for (int p = 3997; p <= 4000; p++) {
            ZInput z = new ZInput(5);
            int fit = (LAST + 1 - p - 2) / 4;
            Setting.text(z, 5, T, "a ".repeat(fit + 1));
            z.put(p, 2, fit * 256 + 77);
            DUE.is("parse, as many as there is room for", z.parse(T, p, 0, flag), fit + 1);
            DUE.octets(z, p, fit, fit);
            z.put(p, 2, (fit + 1) * 256 + 77);
            DUE.is("parse, one more", z.parse(T, p, 0, flag), ZInput.OUTSIDE);
            DUE.octets(z, p, fit + 1, 77);
            z.put(p, 2, 255 * 256 + 77);
            DUE.is("parse, 255 might be told", z.parse(T, p, 0, flag), ZInput.OUTSIDE);
            // What is not told is not needed.
            Setting.text(z, 5, T, "a ".repeat(fit));
            DUE.is("parse, there are fewer", z.parse(T, p, 0, flag), fit);
            DUE.octets(z, p, 255, fit);
        }
    }

    private static void headOfADictionary() {
        DUE.sentence("of a DICTIONARY all");
        for (int d : new int[] {3837, 3990, 4000}) {
            ZInput z = new ZInput(5);
            int most = Math.min(255, LAST - d - 3);
            z.put(d, 1, most);
            DUE.is("look, the head ends at " + (d + most + 3), z.look(0, 1, d), 0);
            for (int n = most + 1; n <= Math.min(255, most + 4); n++) {
                z.put(d, 1, n);
                DUE.is("look, the head ends at " + (d + n + 3), z.look(0, 1, d), ZInput.OUTSIDE);
            }
            z.put(d, 1, 255L);
            DUE.is("look, 255 SEPARATORS", z.look(0, 1, d), d + 258 <= LAST ? 0 : ZInput.OUTSIDE);
        }
    }

    private static void entriesOfADictionary() {
        DUE.sentence("(of each ENTRY SIZE octets, and those of a PACKED word)");
        for (int version = 3; version <= 4; version++) {
            for (int size : new int[] {6, 7, 46, 92}) {
                ZInput z = new ZInput(version);
                int fit = (91 + size) / size;
                int d = LAST + 1 - 4 - fit * size;
                Due.lay(z, d, 0, size, 0, fit);
                DUE.is("look, SIZE " + size + ", up to the last octet", z.look(0, 1, d), 0);
                // One octet, or one ENTRY, too many.
                Due.lay(z, d, 0, size + 1, 0, fit);
                DUE.is("look, SIZE " + (size + 1), z.look(0, 1, d), ZInput.OUTSIDE);
                Due.lay(z, d, 0, size, 0, fit + 1);
                DUE.is("look, one more", z.look(0, 1, d), ZInput.OUTSIDE);
                Due.lay(z, d, 0, size, 255, 256 - fit);
                DUE.is("look, with a sign", z.look(0, 1, d), 0);
                Due.lay(z, d, 0, size, 255, 255 - fit);
                DUE.is("look, with a sign, one more", z.look(0, 1, d), ZInput.OUTSIDE);
                Due.lay(z, d, 0, 255, 127, 255);
                DUE.is("look, a multitude", z.look(0, 1, d), ZInput.OUTSIDE);
                Due.lay(z, d, 0, 255, 0, 0);
                DUE.is("look, none", z.look(0, 1, d), 0);
            }
        }
    }

    private static void packedWordsOfADictionary() {
        DUE.sentence("and those of a PACKED word)");
        for (int version = 3; version <= 4; version++) {
            int octets = version == 3 ? 4 : 6;
            for (int size = 0; size < octets; size++) {
                for (int count = 1; count <= 3; count++) {
                    // So many SEPARATORS that the last word ends with MEMORY; none of the words is 'a'.
                    int n = 92 - (count - 1) * size - octets;
                    ZInput z = new ZInput(version);
                    z.put(0, 1, 'a');
                    z.put(4000, 1, n);
                    Due.lay(z, 4001 + n, size, 0, count);
                    DUE.is("look, up to the last octet, SIZE " + size, z.look(0, 1, 4000), 0);
                    Setting.word(z, LAST + 1 - octets, "a");
                    DUE.is("look, the last one", z.look(0, 1, 4000), LAST + 1 - octets);
                    z.put(4000, 1, n + 1);
                    Due.lay(z, 4002 + n, size, 0, count);
                    DUE.is("look, one octet behind, SIZE " + size, z.look(0, 1, 4000), ZInput.OUTSIDE);
                }
            }
        }
    }

    private static void whateverIsLookedFor() {
        DUE.sentence("whatever is looked for.");
        ZInput z = new ZInput(5);
        int entry = Setting.dictionary(z, 3900, "", 6, "a");
        z.put(100, 1, 'a');
        DUE.is("look, found", z.look(100, 1, 3900), entry);
        z.put(3902, 2, 33L);
        DUE.is("look, found before the end", z.look(100, 1, 3900), ZInput.OUTSIDE);
        Setting.text(z, 5, T, "a");
        z.put(P, 2, 0x094dL);
        DUE.is("parse, found before the end", z.parse(T, P, 3900, false), ZInput.OUTSIDE);
        Setting.text(z, 5, T, "");
        DUE.is("parse, no WORDS", z.parse(T, P, 3900, false), ZInput.OUTSIDE);
        Setting.text(z, 5, T, "b");
        z.put(P, 1, 0L);
        DUE.is("parse, no WORD is told", z.parse(T, P, 3900, true), ZInput.OUTSIDE);
        DUE.octets(z, P, 0, 77);
    }
}
