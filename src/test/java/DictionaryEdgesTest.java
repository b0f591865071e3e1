/** The edges of the term A DICTIONARY: a test for each sentence that names one. */
final class DictionaryEdgesTest {
    private static final Due DUE = new Due("DictionaryEdgesTest");
    private static final int D = Setting.DICTIONARY;
    private static final int T = 2000;
    private static final int P = Setting.PARSED;
    private static final int FROM = 200;

    public static void main(String[] args) {
        separators();
        sizes();
        entries();
        packedWordsFirst();
        separatorsAlone();
        longestRows();
        firstEntry();
        textsBeforeZero();
        textsThatCount();
        firstWordsTold();
        placesTold();
        noEntry();
        moduloLengths();
        moduloPlaces();
        flag();
        lookedUpFirst();
        DUE.end();
    }

    /** An object with the WORD "a" at FROM, to be looked up. */
    private static ZInput withWord(int version) {
        ZInput z = new ZInput(version);
        Due.lay(z, FROM, "a");
        return z;
    }

    /** PARSES a TEXT by the DICTIONARY at D and looks how many WORDS there are, and are told. */
    private static void parses(ZInput z, int version, String text, int words) {
        Setting.text(z, version, T, text);
        z.put(P, 1, 255L);
        DUE.is("parse '" + text + "'", z.parse(T, P, D, false), words);
        DUE.octets(z, P, 255, words);
    }

    /** WORD i is told with this many CODES from this place on. */
    private static void tells(ZInput z, int i, int length, int place) {
        DUE.octets(z, P + 4 + 4 * i, length, place);
    }

    private static void separators() {
        DUE.sentence("AT d how many SEPARATORS n there are, then these CODES; behind them u1, the SIZE of an ENTRY");
        ZInput z = withWord(5);
        int none = Setting.dictionary(z, D, "", 6, "a");
        DUE.is("look, no SEPARATORS", z.look(FROM, 1, D), none);
        DUE.is("they end", none, D + 4);
        parses(z, 5, "a,a", 1);
        Setting.dictionary(z, D, ",", 6, "a");
        DUE.is("look, one", z.look(FROM, 1, D), D + 5);
        parses(z, 5, "a,a", 3);
        Setting.dictionary(z, D, "\0", 6, "a");
        parses(z, 5, "a\0a,a", 3);
        // What other DICTIONARIES had is none of this one's.
        Setting.dictionary(z, D, "", 6, "a");
        parses(z, 5, "a\0a,a", 1);
        StringBuilder all = new StringBuilder();
        for (int code = 1; code <= 255; code++) {
            all.append((char) code);
        }
        z = withWord(5);
        Setting.dictionary(z, D, all.toString(), 6, "a");
        DUE.is("look, 255", z.look(FROM, 1, D), D + 259);
        parses(z, 5, "\1\u00fea \u00ff\0\0", 6);
        tells(z, 5, 2, 7);
    }

    private static void sizes() {
        DUE.sentence("the SIZE of an ENTRY (as an octet);");
        for (int size : new int[] {4, 5, 127, 128, 255}) {
            ZInput z = withWord(3);
            Setting.dictionary(z, D, "", size, "b", "c", "a");
            DUE.is("look, SIZE " + size, z.look(FROM, 1, D), D + 4 + 2 * size);
        }
        // ENTRIES that are shorter than a PACKED word lie over one another; of no octets, all in one place.
        for (int size : new int[] {0, 1, 3}) {
            ZInput z = withWord(3);
            Due.lay(z, D, 0, size, 0, 3);
            Setting.word(z, D + 4 + 2 * size, "a");
            DUE.is("look, SIZE " + size, z.look(FROM, 1, D), D + 4 + 2 * size);
        }
    }

    private static void entries() {
        DUE.sentence("then a u2, how many ENTRIES there are (as a number with a sign, its size counts);");
        int[] counts = {0, 1, 2, 3, 255, 256, 257, 65535, 65534, 65533, 65281, 65280, 65279};
        int[] sizes = {0, 1, 2, 3, 255, 256, 257, 1, 2, 3, 255, 256, 257};
        for (int i = 0; i < counts.length; i++) {
            ZInput z = withWord(3);
            Setting.word(z, D + 4 + 4 * sizes[i], "a");
            z.put(D + 1, 3, 4 * 65536L + counts[i]);
            DUE.is("look, behind the last of " + counts[i], z.look(FROM, 1, D), 0);
            if (sizes[i] > 0) {
                Setting.word(z, D + 4 * sizes[i], "a");
                DUE.is("look, the last of " + counts[i], z.look(FROM, 1, D), D + 4 * sizes[i]);
            }
        }
        for (int size : new int[] {0, 1, 255}) {
            ZInput z = withWord(3);
            Due.lay(z, D, 0, size, 0, 0);
            Setting.word(z, D + 4, "a");
            DUE.is("look, none of SIZE " + size, z.look(FROM, 1, D), 0);
        }
        for (int count : new int[] {32767, 32768, 32769}) {
            ZInput z = withWord(3);
            z.put(D + 2, 2, count);
            DUE.is("look, " + count + " of SIZE 0", z.look(FROM, 1, D), 0);
            Setting.word(z, D + 4, "a");
            DUE.is("look, " + count + " of SIZE 0, found", z.look(FROM, 1, D), D + 4);
            z.put(D + 1, 1, 1L);
            DUE.is("look, " + count + " of SIZE 1", z.look(FROM, 1, D), ZInput.OUTSIDE);
        }
    }

    private static void packedWordsFirst() {
        DUE.sentence("then the ENTRIES, each of SIZE octets, first those of a PACKED word.");
        for (int version = 3; version <= 4; version++) {
            int octets = version == 3 ? 4 : 6;
            ZInput z = withWord(version);
            Setting.dictionary(z, D, "", 9, "b", "a");
            // What stands behind the word, or in the next place, is no matter; its own octets are.
            z.put(D + 13 + octets, 1, 255L);
            DUE.is("look, version " + version, z.look(FROM, 1, D), D + 13);
            int last = D + 13 + octets - 1;
            z.put(last, 1, z.at(last) ^ 1);
            DUE.is("look, the word's last octet is another", z.look(FROM, 1, D), 0);
            z.put(last, 1, z.at(last) ^ 1);
            z.put(D + 13, 1, z.at(D + 13) ^ 128);
            DUE.is("look, the word's first octet is another", z.look(FROM, 1, D), 0);
        }
    }

    private static void separatorsAlone() {
        DUE.sentence("The WORDS of a row of CODES: each SEPARATOR alone;");
        ZInput z = new ZInput(4);
        Setting.dictionary(z, D, ",.", 6);
        parses(z, 4, ",", 1);
        tells(z, 0, 1, 1);
        parses(z, 4, ",,.", 3);
        tells(z, 0, 1, 1);
        tells(z, 1, 1, 2);
        tells(z, 2, 1, 3);
        parses(z, 4, ",ab.", 3);
        tells(z, 0, 1, 1);
        tells(z, 1, 2, 2);
        tells(z, 2, 1, 4);
        parses(z, 4, "a , b", 3);
        tells(z, 1, 1, 3);
        Setting.dictionary(z, D, " ", 6);
        parses(z, 4, " a ", 3);
        tells(z, 0, 1, 1);
        tells(z, 1, 1, 2);
        tells(z, 2, 1, 3);
    }

    private static void longestRows() {
        DUE.sentence("else as many CODES one behind the other as can be that are neither 32 nor SEPARATORS.");
        ZInput z = new ZInput(5);
        Setting.dictionary(z, D, ",", 6);
        parses(z, 5, "", 0);
        parses(z, 5, " ", 0);
        parses(z, 5, "    ", 0);
        parses(z, 5, "x", 1);
        tells(z, 0, 1, 2);
        parses(z, 5, "  abc  ", 1);
        tells(z, 0, 3, 4);
        parses(z, 5, "ab,cde f", 4);
        tells(z, 0, 2, 2);
        tells(z, 2, 3, 5);
        tells(z, 3, 1, 9);
        parses(z, 5, "\u001f!\0\u00ff", 1);
        tells(z, 0, 4, 2);
        parses(z, 5, "a".repeat(255), 1);
        tells(z, 0, 255, 2);
        // What stands behind the CODES is of none of its WORDS.
        z.put(T + 1, 1, 3L);
        DUE.is("parse, 3 of them", z.parse(T, P, D, false), 1);
        tells(z, 0, 3, 2);
        for (int code : new int[] {' ', ',', 'a'}) {
            z.put(T + 5, 1, code);
            DUE.is("parse, before " + code, z.parse(T, P, D, false), 1);
            tells(z, 0, 3, 2);
        }
    }

    private static void firstEntry() {
        DUE.sentence("The ENTRY of a WORD is the first one whose first octets are those of it, PACKED.");
        ZInput z = withWord(3);
        Setting.dictionary(z, D, "", 7, "b", "a", "c", "a", "d");
        DUE.is("look, the second and the fourth", z.look(FROM, 1, D), D + 11);
        Setting.word(z, D + 4, "a");
        DUE.is("look, the first, too", z.look(FROM, 1, D), D + 4);
        Setting.dictionary(z, D, "", 7, "b", "c", "d", "e", "a");
        DUE.is("look, the last", z.look(FROM, 1, D), D + 32);
        // What stands a SIZE before the first, or behind the last, is none.
        Setting.dictionary(z, D, "", 255, "b", "c");
        Setting.word(z, D + 4 - 255, "a");
        Setting.word(z, D + 4 + 2 * 255, "a");
        DUE.is("look, before and behind them", z.look(FROM, 1, D), 0);
        // WORDS that are PACKED alike have the same ENTRY.
        Setting.dictionary(z, D, "", 7, "abcdef");
        Due.lay(z, FROM, "abcdefzz");
        DUE.is("look, cut", z.look(FROM, 8, D), D + 4);
        DUE.is("look, whole", z.look(FROM, 6, D), D + 4);
        DUE.is("look, shorter", z.look(FROM, 5, D), 0);
    }

    private static void textsBeforeZero() {
        DUE.sentence("the CODES are of V 1 to 4 those from t + 1 on before the first 0;");
        for (int version = 1; version <= 4; version++) {
            ZInput z = new ZInput(version);
            z.put(P, 1, 9L);
            Due.lay(z, T, 77, 0, 'a', 'b');
            DUE.is("parse, none", z.parse(T, P, D, false), 0);
            Due.lay(z, T, 77, 'a', 0, 'b');
            DUE.is("parse, one", z.parse(T, P, D, false), 1);
            DUE.octets(z, P, 9, 1, 0, 0, 1, 1);
            Due.lay(z, T, 0, 2, 'b', ' ', 'c', 0, ' ', 'd');
            DUE.is("parse, four", z.parse(T, P, D, false), 2);
            DUE.octets(z, P, 9, 2, 0, 0, 2, 1, 0, 0, 1, 4);
        }
        ZInput z = new ZInput(4);
        Setting.text(z, 4, T, "x".repeat(255) + " " + "y".repeat(256) + " z");
        DUE.is("parse, many", z.parse(T, P, D, false), 3);
    }

    private static void textsThatCount() {
        DUE.sentence("from V 5 on AT t + 1 is how many, from t + 2 on.");
        for (int version = 5; version <= 8; version++) {
            ZInput z = new ZInput(version);
            z.put(P, 1, 9L);
            Due.lay(z, T, 77, 0, 'a', 'b');
            DUE.is("parse, none", z.parse(T, P, D, false), 0);
            Due.lay(z, T, 0, 1, 'a', 'b');
            DUE.is("parse, one", z.parse(T, P, D, false), 1);
            DUE.octets(z, P, 9, 1, 0, 0, 1, 2);
            Due.lay(z, T, 0, 4, 0, ' ', 0, 'a', 'b');
            DUE.is("parse, four with 0s", z.parse(T, P, D, false), 2);
            DUE.octets(z, P, 9, 2, 0, 0, 1, 2, 0, 0, 2, 4);
            Setting.text(z, version, T, " x".repeat(127) + "y");
            z.put(T + 257, 1, 'z');
            DUE.is("parse, 255", z.parse(T, P, D, false), 127);
            Setting.text(z, version, T, "x".repeat(255));
            DUE.is("parse, 255 without a 32", z.parse(T, P, D, false), 1);
            DUE.octets(z, P, 9, 1, 0, 0, 255, 2);
        }
    }

    private static void firstWordsTold() {
        DUE.sentence("Of its WORDS the first AT p (all, if there are fewer) are told: how many becomes AT p + 1;");
        for (int most : new int[] {0, 1, 2, 3, 4, 255}) {
            ZInput z = new ZInput(5);
            Setting.text(z, 5, T, "a bb ccc");
            int told = Math.min(most, 3);
            Due.lay(z, P, most, 77, 9, 9, 9, 9, 9, 9, 9, 9, 9, 9, 9, 9, 9);
            DUE.is("parse, AT p " + most, z.parse(T, P, D, false), 3);
            DUE.octets(z, P, most, told);
            for (int i = 0; i < 3; i++) {
                tells(z, i, i < told ? i + 1 : 9, i < told ? new int[] {2, 4, 7}[i] : 9);
            }
            DUE.octets(z, P + 14, 9);
        }
        ZInput z = new ZInput(4);
        Setting.text(z, 4, T, "x ".repeat(256));
        for (int most : new int[] {254, 255}) {
            z.put(P, 1, most);
            z.put(P + 2 + 4 * most, 4, 0x09090909L);
            DUE.is("parse 256 WORDS, AT p " + most, z.parse(T, P, 1800, false), 256);
            DUE.octets(z, P, most, most);
            DUE.octets(z, P + 2 + 4 * (most - 1), 0, 0, 1, most * 2 - 1 & 255, 9, 9, 9, 9);
        }
    }

    private static void placesTold() {
        DUE.sentence("the i-th one, i from 0 on, in the four octets from p + 2 + 4 i on:");
        ZInput z = new ZInput(5);
        Due.lay(z, D + 500, 1, ',', 0, 0, 0);
        Setting.text(z, 5, T, ",".repeat(255));
        z.put(0, 1, 255L);
        DUE.is("parse into 0", z.parse(T, 0, D + 500, false), 255);
        DUE.octets(z, 0, 255, 255);
        for (int i : new int[] {0, 1, 2, 127, 128, 253, 254}) {
            DUE.octets(z, 2 + 4 * i, 0, 0, 1, (i + 2) % 256);
        }
        DUE.octets(z, 2 + 4 * 255, 0, 0, 0, 0);
    }

    private static void noEntry() {
        DUE.sentence("the address of its ENTRY (u2; 0 if it has none)");
        for (int d : new int[] {250, 251, 252, 253, 1000, 3980}) {
            ZInput z = new ZInput(3);
            Setting.dictionary(z, d, "", 4, "a");
            Setting.text(z, 3, T, "a b");
            Due.lay(z, P, 9, 9, 9, 9, 9, 9, 9, 9, 9, 9);
            z.parse(T, P, d, false);
            DUE.octets(z, P, 9, 2, (d + 4) / 256, (d + 4) % 256, 1, 1, 0, 0, 1, 3);
        }
    }

    private static void moduloLengths() {
        DUE.sentence("how many CODES it has, where it begins (its address less t; both modulo 256);");
        for (int length : new int[] {1, 254, 255, 256, 257, 511, 512, 513}) {
            ZInput z = new ZInput(1);
            Setting.text(z, 1, T, "x".repeat(length));
            z.put(P, 1, 1L);
            DUE.is("parse " + length + " CODES", z.parse(T, P, D, false), 1);
            tells(z, 0, length % 256, 1);
        }
    }

    private static void moduloPlaces() {
        DUE.sentence("where it begins (its address less t; both modulo 256);");
        for (int place : new int[] {2, 254, 255, 256}) {
            ZInput z = new ZInput(5);
            Setting.text(z, 5, T, " ".repeat(place - 2) + "x");
            z.put(P, 1, 1L);
            z.parse(T, P, D, false);
            tells(z, 0, 1, place % 256);
        }
        for (int place : new int[] {1, 255, 256, 257, 511, 512, 513}) {
            ZInput z = new ZInput(4);
            Setting.text(z, 4, T, " ".repeat(place - 1) + "x");
            z.put(P, 1, 1L);
            z.parse(T, P, D, false);
            tells(z, 0, 1, place % 256);
        }
        // It is counted from t, wherever that is.
        ZInput z = new ZInput(5);
        Due.lay(z, 0, 0, 1, 'x');
        z.put(P, 1, 1L);
        DUE.is("parse at 0", z.parse(0, P, D, false), 1);
        tells(z, 0, 1, 2);
    }

    private static void flag() {
        DUE.sentence("with the flag the four stay as they are, if it has none.");
        ZInput z = new ZInput(5);
        Setting.dictionary(z, D, "", 6, "b", "d");
        Setting.text(z, 5, T, "a b c d e");
        Due.lay(z, P, 4, 77, 1, 2, 3, 4, 5, 6, 7, 8, 9, 10, 11, 12, 13, 14, 15, 16, 17, 18, 19, 20);
        DUE.is("parse with it", z.parse(T, P, D, true), 5);
        int b = D + 4;
        int d = D + 10;
        DUE.octets(z, P, 4, 4, 1, 2, 3, 4, b / 256, b % 256, 1, 4, 9, 10, 11, 12, d / 256, d % 256, 1, 8, 17, 18);
        Setting.text(z, 5, T, "x");
        DUE.is("parse with it, none has one", z.parse(T, P, D, true), 1);
        DUE.octets(z, P, 4, 1, 1, 2, 3, 4);
        DUE.is("parse without it", z.parse(T, P, D, false), 1);
        DUE.octets(z, P, 4, 1, 0, 0, 1, 2, b / 256);
    }

    private static void lookedUpFirst() {
        DUE.sentence("(All is looked up before anything is written.)");
        ZInput z = new ZInput(3);
        int entry = Setting.dictionary(z, D, "", 4, "c", "b", "a");
        Setting.text(z, 3, T, "a b c");
        // p + 1 is the first octet of the first ENTRY; p is the lower one of how many there are, 3.
        int p = entry - 1;
        DUE.is("parse onto the ENTRIES", z.parse(T, p, D, false), 3);
        DUE.octets(z, p, 3, 3, 3, (entry + 8) % 256, 1, 1, 3, (entry + 4) % 256, 1, 3, 3, entry % 256, 1, 5);
        z = new ZInput(3);
        entry = Setting.dictionary(z, D, "", 4, "a");
        Setting.text(z, 3, T, "aa a");
        // p is in the TEXT: AT p is 97 , and WORDS are written where its CODES were.
        DUE.is("parse onto the CODES", z.parse(T, T + 1, D, false), 2);
        DUE.octets(z, T + 1, 'a', 2, 0, 0, 2, 1, 3, entry % 256, 1, 4);
        z = new ZInput(5);
        Due.lay(z, T, 2, 3, 'a', ' ', 'b');
        // p + 1 is how many CODES there are.
        DUE.is("parse onto their number", z.parse(T, T, D, false), 2);
        DUE.octets(z, T, 2, 2, 0, 0, 1, 2, 0, 0, 1, 4);
        z = new ZInput(3);
        Setting.dictionary(z, D, ",.", 4);
        Setting.text(z, 3, T, "a,b");
        // p + 1 is the first SEPARATOR, p is how many there are.
        DUE.is("parse onto the SEPARATORS", z.parse(T, D, D, false), 3);
        DUE.octets(z, D, 2, 2, 0, 0, 1, 1, 0, 0, 1, 2);
    }
}
