/** Promises 5 to 7: tables, look, parse. */
final class DictionaryTest {
    private static final Due DUE = new Due("DictionaryTest");
    private static final int D = 1000;
    private static final int T = 2000;
    private static final int P = 3000;

    public static void main(String[] args) {
        tables();
        look();
        lookTakesTheFirst();
        shortEntries();
        countsWithASign();
        lookRefusals();
        dictionaryOutside();
        parseEarly();
        parseLate();
        parseSeparators();
        parseTellsTheFirst();
        parseWithFlag();
        parseLongTexts();
        parseLooksUpFirst();
        parseRefusals();
        parseOutside();
        DUE.end();
    }

    /** A DICTIONARY at D: separators, then words as ENTRIES of the size. The address of the first. */
    private static int dictionary(ZInput z, String separators, int size, String... words) {
        int at = D;
        z.put(at++, 1, separators.length());
        Due.lay(z, at, separators);
        at += separators.length();
        z.put(at++, 1, size);
        z.put(at, 2, words.length);
        at += 2;
        for (int i = 0; i < words.length; i++) {
            Due.lay(z, 4000, words[i]);
            z.pack(4000, words[i].length(), at + i * size);
            z.put(4000, 8, 0L);
        }
        return at;
    }

    /** A TEXT at T as its version holds it. */
    private static void text(ZInput z, int version, String text) {
        if (version >= 5) {
            z.put(T + 1, 1, text.length());
        }
        Due.lay(z, T + (version >= 5 ? 2 : 1), text);
        if (version <= 4) {
            z.put(T + 1 + text.length(), 1, 0L);
        }
    }

    private static void tables() {
        DUE.run("tables");
        ZInput z = new ZInput(5);
        int entry = dictionary(z, "", 6, "go");
        DUE.is("tables(0, 0)", z.tables(0, 0), 1);
        DUE.is("tables(4000, 4000)", z.tables(4000, 4000), 1);
        DUE.is("tables(1000, 50)", z.tables(D, 50), 1);
        for (int wrong : new int[] {-1, 4001, Integer.MIN_VALUE, Integer.MAX_VALUE}) {
            DUE.is("tables(" + wrong + ", 0)", z.tables(wrong, 0), ZInput.BAD);
            DUE.is("tables(0, " + wrong + ")", z.tables(0, wrong), ZInput.BAD);
        }
        z.put(50, 1, 154L);
        z.put(T, 1, 10L);
        z.put(P, 1, 5L);
        z.begin(T, P);
        Due.press(z, "go");
        DUE.is("key(153)", z.key(153), 0);
        DUE.is("key(154)", z.key(154), 1);
        DUE.octets(z, P, 5, 1, entry / 256, entry % 256, 2, 2);
    }

    private static void look() {
        for (int version = 1; version <= 8; version++) {
            DUE.run("look, version " + version);
            ZInput z = new ZInput(version);
            int entry = dictionary(z, ".,", 7, "lamp", "take", "", "northwest");
            Due.lay(z, 100, "takelampnorthwesternlam");
            DUE.is("look take", z.look(100, 4, D), entry + 7);
            DUE.is("look lamp", z.look(104, 4, D), entry);
            DUE.is("look nothing", z.look(100, 0, D), entry + 14);
            DUE.is("look nothing nowhere", z.look(-5, 0, D), entry + 14);
            DUE.is("look northwestern", z.look(108, 12, D), entry + 21);
            DUE.is("look northw", z.look(108, 6, D), version <= 3 ? entry + 21 : 0);
            DUE.is("look lam", z.look(120, 3, D), 0);
            DUE.is("look 255", z.look(100, 255, D), 0);
            DUE.is("look in none", z.look(100, 4, 3500), 0);
        }
    }

    private static void lookTakesTheFirst() {
        DUE.run("the first ENTRY");
        ZInput z = new ZInput(3);
        int entry = dictionary(z, "", 4, "b", "a", "a", "c", "a");
        Due.lay(z, 100, "abc");
        DUE.is("look a", z.look(100, 1, D), entry + 4);
        DUE.is("look b", z.look(101, 1, D), entry);
        DUE.is("look c", z.look(102, 1, D), entry + 12);
        z.put(entry + 7, 1, 0L);
        DUE.is("look a, the last octet of the first changed", z.look(100, 1, D), entry + 8);
        z.put(entry + 8, 1, 255L);
        DUE.is("look a, the first octet of the second changed", z.look(100, 1, D), entry + 16);
    }

    private static void shortEntries() {
        DUE.run("ENTRIES shorter than a PACKED word");
        ZInput z = new ZInput(3);
        Due.lay(z, 100, "a");
        Due.lay(z, D, 0, 1, 0, 9);
        z.pack(100, 1, D + 4 + 8);
        DUE.is("look, SIZE 1", z.look(100, 1, D), D + 12);
        Due.lay(z, D, 0, 1, 0, 8);
        DUE.is("look, SIZE 1, one fewer", z.look(100, 1, D), 0);
        Due.lay(z, D, 0, 0, 127, 255);
        DUE.is("look, SIZE 0", z.look(100, 1, D), 0);
        z.pack(100, 1, D + 4);
        DUE.is("look, SIZE 0, found", z.look(100, 1, D), D + 4);
        Due.lay(z, D, 0, 0, 0, 0);
        DUE.is("look, no ENTRIES", z.look(100, 1, D), 0);
        z = new ZInput(4);
        Due.lay(z, 100, "a");
        Due.lay(z, 3996, 0, 5, 0, 19);
        z.pack(100, 1, 4090);
        DUE.is("look, the last one ends with MEMORY", z.look(100, 1, 3996), 4090);
        Due.lay(z, 3996, 0, 5, 0, 20);
        DUE.is("look, the last PACKED word ends behind", z.look(100, 1, 3996), ZInput.OUTSIDE);
    }

    private static void countsWithASign() {
        DUE.run("how many ENTRIES, with a sign");
        ZInput z = new ZInput(3);
        Due.lay(z, 100, "a");
        Due.lay(z, D, 0, 4, 255, 254);
        z.pack(100, 1, D + 8);
        DUE.is("look, -2", z.look(100, 1, D), D + 8);
        Due.lay(z, D, 0, 4, 255, 255);
        DUE.is("look, -1", z.look(100, 1, D), 0);
        Due.lay(z, D, 0, 0, 128, 0);
        z.pack(100, 1, D + 4);
        DUE.is("look, -32768", z.look(100, 1, D), D + 4);
        Due.lay(z, D, 0, 1, 128, 0);
        DUE.is("look, -32768 of SIZE 1", z.look(100, 1, D), ZInput.OUTSIDE);
        // The SIZE has no sign.
        Due.lay(z, D, 0, 255, 0, 2);
        z.pack(100, 1, D + 4 + 255);
        z.put(D + 4, 4, 0L);
        DUE.is("look, SIZE 255", z.look(100, 1, D), D + 259);
    }

    private static void lookRefusals() {
        DUE.run("look's refusals");
        ZInput z = new ZInput(5);
        for (int n : new int[] {-1, 256, Integer.MIN_VALUE, Integer.MAX_VALUE}) {
            DUE.is("look(-1, " + n + ", 0)", z.look(-1, n, 0), ZInput.BAD);
        }
        for (int d : new int[] {-1, 4001, Integer.MIN_VALUE, Integer.MAX_VALUE}) {
            DUE.is("look(-1, 1, " + d + ")", z.look(-1, 1, d), ZInput.BAD);
        }
        for (int from : new int[] {-1, 4096, 4092, Integer.MIN_VALUE, Integer.MAX_VALUE}) {
            DUE.is("look(" + from + ", 5, 0)", z.look(from, 5, 0), ZInput.OUTSIDE);
        }
        DUE.is("look(4091, 5, 0)", z.look(4091, 5, 0), 0);
        DUE.is("look(3841, 255, 0)", z.look(3841, 255, 0), 0);
        DUE.is("look(3842, 255, 0)", z.look(3842, 255, 0), ZInput.OUTSIDE);
    }

    private static void dictionaryOutside() {
        DUE.run("a DICTIONARY OUTSIDE");
        ZInput z = new ZInput(3);
        z.put(4000, 1, 92L);
        DUE.is("look, its head ends with MEMORY", z.look(0, 0, 4000), 0);
        z.put(4000, 1, 93L);
        DUE.is("look, its head ends behind", z.look(0, 0, 4000), ZInput.OUTSIDE);
        z.put(4000, 1, 255L);
        DUE.is("look, its SIZE is behind", z.look(0, 0, 4000), ZInput.OUTSIDE);
        Due.lay(z, 4000, 0, 4, 0, 23);
        DUE.is("look, its ENTRIES end with MEMORY", z.look(0, 0, 4000), 0);
        Due.lay(z, 4000, 0, 4, 0, 24);
        DUE.is("look, its ENTRIES end behind", z.look(0, 0, 4000), ZInput.OUTSIDE);
        z.pack(0, 0, 4004);
        DUE.is("look, though the first is it", z.look(0, 0, 4000), ZInput.OUTSIDE);
        Due.lay(z, 4000, 0, 93, 0, 1);
        DUE.is("look, an ENTRY ends behind, not its word", z.look(0, 0, 4000), ZInput.OUTSIDE);
        Due.lay(z, 4000, 0, 92, 0, 1);
        DUE.is("look, an ENTRY ends with MEMORY", z.look(0, 0, 4000), 4004);
        Due.lay(z, 4000, 0, 255, 127, 255);
        DUE.is("look, a multitude", z.look(0, 0, 4000), ZInput.OUTSIDE);
        Due.lay(z, 4000, 89, 0);
        Due.lay(z, 4090, 0, 0, 1);
        DUE.is("look, SIZE 0, the word ends behind", z.look(0, 0, 4000), ZInput.OUTSIDE);
    }

    private static void parseEarly() {
        for (int version = 1; version <= 4; version++) {
            DUE.run("parse, version " + version);
            ZInput z = new ZInput(version);
            int entry = dictionary(z, "", 9, "get", "lamp");
            text(z, version, "  get the  lamp ");
            z.put(T, 1, 99L);
            z.put(P, 1, 9L);
            DUE.is("parse", z.parse(T, P, D, false), 3);
            int lamp = entry + 9;
            DUE.octets(z, P, 9, 3, entry / 256, entry % 256, 3, 3, 0, 0, 3, 7,
                    lamp / 256, lamp % 256, 4, 12, 0, 0);
            text(z, version, "");
            DUE.is("parse nothing", z.parse(T, P, D, false), 0);
            DUE.octets(z, P, 9, 0, entry / 256);
        }
    }

    private static void parseLate() {
        for (int version = 5; version <= 8; version++) {
            DUE.run("parse, version " + version);
            ZInput z = new ZInput(version);
            int entry = dictionary(z, "", 9, "get", "lamp");
            text(z, version, "get\0 lamp lamp");
            z.put(T + 1, 1, 12L);
            z.put(P, 1, 9L);
            DUE.is("parse", z.parse(T, P, D, false), 3);
            int lamp = entry + 9;
            DUE.octets(z, P, 9, 3, 0, 0, 4, 2, lamp / 256, lamp % 256, 4, 7, 0, 0, 2, 12, 0, 0);
            z.put(T + 1, 1, 0L);
            DUE.is("parse nothing", z.parse(T, P, D, false), 0);
            DUE.octets(z, P, 9, 0, 0, 0, 4, 2);
        }
    }

    private static void parseSeparators() {
        DUE.run("SEPARATORS");
        ZInput z = new ZInput(5);
        int entry = dictionary(z, ",.", 6, ",", "a");
        text(z, 5, ",a,,b .c.");
        z.put(P, 1, 20L);
        int a = entry + 6;
        int h = entry / 256;
        DUE.is("parse", z.parse(T, P, D, false), 8);
        DUE.octets(z, P + 1, 8, h, entry % 256, 1, 2, h, a % 256, 1, 3, h, entry % 256, 1, 4,
                h, entry % 256, 1, 5, 0, 0, 1, 6, 0, 0, 1, 8, 0, 0, 1, 9, 0, 0, 1, 10, 0);
        z = new ZInput(5);
        dictionary(z, " ", 6);
        text(z, 5, "a  b");
        z.put(P, 1, 20L);
        DUE.is("parse, 32 being a SEPARATOR", z.parse(T, P, D, false), 4);
        DUE.octets(z, P + 1, 4, 0, 0, 1, 2, 0, 0, 1, 3, 0, 0, 1, 4, 0, 0, 1, 5);
        dictionary(z, "", 6);
        DUE.is("parse, no SEPARATORS any more", z.parse(T, P, D, false), 2);
        z.put(3500, 5, 0x03616263_00L);
        text(z, 5, "abcabcd");
        DUE.is("parse, letters being SEPARATORS", z.parse(T, P, 3500, false), 7);
        z = new ZInput(5);
        dictionary(z, "\0\u00ff", 'a');
        text(z, 5, "x\0y\u00ffza\u00fe");
        z.put(P, 1, 20L);
        DUE.is("parse, the lowest and the highest CODE being SEPARATORS", z.parse(T, P, D, false), 5);
        DUE.octets(z, P + 1, 5, 0, 0, 1, 2, 0, 0, 1, 3, 0, 0, 1, 4, 0, 0, 1, 5, 0, 0, 3, 6, 0);
        dictionary(z, ",", 6);
        text(z, 5, "ab\0,");
        z.put(T + 1, 1, 3L);
        DUE.is("parse, a SEPARATOR behind the TEXT, 0 being none any more", z.parse(T, P, D, false), 1);
        DUE.octets(z, P + 1, 1, 0, 0, 3, 2);
    }

    private static void parseTellsTheFirst() {
        DUE.run("the first WORDS are told");
        ZInput z = new ZInput(5);
        dictionary(z, "", 6);
        text(z, 5, "a b c d");
        Due.lay(z, P, 2, 77, 9, 9, 9, 9, 9, 9, 9, 9, 9, 9);
        DUE.is("parse, 2 told", z.parse(T, P, D, false), 4);
        DUE.octets(z, P, 2, 2, 0, 0, 1, 2, 0, 0, 1, 4, 9, 9);
        Due.lay(z, P, 0, 77, 9);
        DUE.is("parse, none told", z.parse(T, P, D, false), 4);
        DUE.octets(z, P, 0, 0, 9);
        text(z, 5, " ".repeat(100));
        DUE.is("parse spaces", z.parse(T, P, D, false), 0);
        text(z, 5, ",".repeat(255));
        Due.lay(z, 2500, 1, ',', 0, 0, 0);
        z.put(P, 1, 255L);
        DUE.is("parse, 255 told", z.parse(T, P, 2500, false), 255);
        DUE.octets(z, P + 1, 255);
        DUE.octets(z, P + 2 + 4 * 254, 0, 0, 1, 0, 0);
        DUE.is("parse into 0", z.parse(T, 0, 2500, false), 255);
        DUE.octets(z, 0, 0, 0, 0, 0);
    }

    private static void parseWithFlag() {
        DUE.run("the flag");
        ZInput z = new ZInput(3);
        int entry = dictionary(z, "", 4, "b");
        text(z, 3, "a b c");
        Due.lay(z, P, 9, 77, 1, 2, 3, 4, 5, 6, 7, 8, 9, 10, 11, 12, 13);
        DUE.is("parse with the flag", z.parse(T, P, D, true), 3);
        DUE.octets(z, P, 9, 3, 1, 2, 3, 4, entry / 256, entry % 256, 1, 3, 9, 10, 11, 12, 13);
        DUE.is("parse without", z.parse(T, P, D, false), 3);
        DUE.octets(z, P, 9, 3, 0, 0, 1, 1, entry / 256, entry % 256, 1, 3, 0, 0, 1, 5, 13);
    }

    private static void parseLongTexts() {
        DUE.run("lengths and places modulo 256");
        ZInput z = new ZInput(4);
        text(z, 4, "x".repeat(300) + " " + "y".repeat(256));
        z.put(P, 1, 5L);
        DUE.is("parse", z.parse(T, P, 3500, false), 2);
        DUE.octets(z, P, 5, 2, 0, 0, 44, 1, 0, 0, 0, 46);
        z = new ZInput(4);
        text(z, 4, "x ".repeat(500));
        z.put(P, 1, 3L);
        DUE.is("parse 500 words", z.parse(T, P, 3500, false), 500);
        DUE.octets(z, P, 3, 3, 0, 0, 1, 1, 0, 0, 1, 3, 0, 0, 1, 5, 0);
        z = new ZInput(5);
        z.put(T + 1, 1, 255L);
        Due.lay(z, T + 2, " ".repeat(254) + "z");
        z.put(P, 1, 3L);
        DUE.is("parse the last of 255", z.parse(T, P, 3500, false), 1);
        DUE.octets(z, P, 3, 1, 0, 0, 1, 0);
    }

    private static void parseLooksUpFirst() {
        DUE.run("all is looked up before anything is written");
        ZInput z = new ZInput(3);
        int entry = dictionary(z, "", 4, "a", "b");
        text(z, 3, "a b");
        int p = entry - 1;
        z.put(p, 1, 2L);
        // AT p is the lower octet of how many ENTRIES there are, p + 1 is in the first ENTRY.
        DUE.is("parse onto the ENTRIES", z.parse(T, p, D, false), 2);
        DUE.octets(z, p, 2, 2, entry / 256, entry % 256, 1, 1, (entry + 4) / 256, (entry + 4) % 256, 1, 3);
        z = new ZInput(3);
        text(z, 3, "a bb");
        z.put(T, 1, 3L);
        DUE.is("parse onto the TEXT", z.parse(T, T, 3500, false), 2);
        DUE.octets(z, T, 3, 2, 0, 0, 1, 1, 0, 0, 2, 3, 0);
        z = new ZInput(3);
        Due.lay(z, D, 2, ',', '.', 4, 0, 0);
        text(z, 3, "a,b");
        z.put(D, 1, 2L);
        DUE.is("parse onto the SEPARATORS", z.parse(T, D, D, false), 3);
        DUE.octets(z, D, 2, 2, 0, 0, 1, 1, 0, 0, 1, 2, 0);
    }

    private static void parseRefusals() {
        DUE.run("parse's refusals");
        ZInput z = new ZInput(5);
        for (int wrong : new int[] {-1, 4001, Integer.MIN_VALUE, Integer.MAX_VALUE}) {
            DUE.is("parse(" + wrong + ", 0, 0)", z.parse(wrong, 0, 0, false), ZInput.BAD);
            DUE.is("parse(0, " + wrong + ", 0)", z.parse(0, wrong, 0, false), ZInput.BAD);
            DUE.is("parse(0, 0, " + wrong + ")", z.parse(0, 0, wrong, true), ZInput.BAD);
        }
        z.put(4001, 1, 255L);
        DUE.is("parse, BAD before OUTSIDE", z.parse(4000, 4001, 0, false), ZInput.BAD);
        DUE.is("parse(0, 0, 0)", z.parse(0, 0, 0, false), 0);
        z.put(4001, 1, 0L);
        DUE.is("parse(4000, 4000, 4000)", z.parse(4000, 4000, 4000, false), 0);
    }

    private static void parseOutside() {
        DUE.run("parse OUTSIDE");
        ZInput z = new ZInput(5);
        z.put(4001, 1, 94L);
        Due.lay(z, 4002, "x".repeat(94));
        DUE.is("parse, the CODES end with MEMORY", z.parse(4000, P, 0, false), 1);
        z.put(4001, 1, 95L);
        DUE.is("parse, the CODES end behind", z.parse(4000, P, 0, false), ZInput.OUTSIDE);
        z = new ZInput(4);
        Due.lay(z, 4001, "x".repeat(94));
        DUE.is("parse, the 0 is the last octet", z.parse(4000, P, 0, false), 1);
        z.put(P + 1, 1, 77L);
        z.put(4095, 1, 'x');
        DUE.is("parse, the 0 is missing", z.parse(4000, P, 0, false), ZInput.OUTSIDE);
        DUE.octets(z, P, 0, 77);
        z = new ZInput(5);
        text(z, 5, "a ".repeat(30));
        z.put(4000, 2, 23 * 256 + 77);
        DUE.is("parse, the WORDS end with MEMORY", z.parse(T, 4000, 0, false), 30);
        DUE.octets(z, 4000, 23, 23, 0, 0, 1, 2);
        z.put(4000, 2, 24 * 256 + 77);
        DUE.is("parse, the WORDS end behind", z.parse(T, 4000, 0, false), ZInput.OUTSIDE);
        DUE.is("parse with the flag, the WORDS end behind", z.parse(T, 4000, 0, true), ZInput.OUTSIDE);
        DUE.octets(z, 4000, 24, 77);
        z.put(3998, 1, 24L);
        DUE.is("parse, the last octet is MEMORY's last", z.parse(T, 3998, 0, false), 30);
        DUE.octets(z, 4092, 0, 0, 1, 48);
        z.put(3999, 1, 24L);
        DUE.is("parse, the last octet alone is behind MEMORY", z.parse(T, 3999, 0, false), ZInput.OUTSIDE);
        z.put(4000, 2, 24 * 256 + 77);
        text(z, 5, "a ".repeat(23));
        DUE.is("parse, fewer WORDS", z.parse(T, 4000, 0, false), 23);
        z.put(T + 1, 1, 0L);
        Due.lay(z, 3990, 0, 9, 0, 99);
        DUE.is("parse no WORDS, the DICTIONARY is OUTSIDE", z.parse(T, P, 3990, false), ZInput.OUTSIDE);
    }
}
