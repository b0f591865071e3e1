/** Promises 8 and 9: begin, key. */
final class ReadTest {
    private static final Due DUE = new Due("ReadTest");
    private static final int T = 100;
    private static final int P = 600;

    public static void main(String[] args) {
        beginEarly();
        beginLate();
        beginRefusals();
        beginOutside();
        everyKey();
        fullLines();
        deleting();
        endingKeys();
        theTable();
        linesAgain();
        linesCut();
        eightLines();
        laidDown();
        echoAndKeep();
        parsed();
        parsedOutside();
        keyRefusals();
        DUE.end();
    }

    /** An object whose READ goes on at T with room for so many CODES. */
    private static ZInput reading(int version, int most) {
        ZInput z = new ZInput(version);
        z.put(T, 1, version <= 4 ? most + 1 : most);
        DUE.is("begin", z.begin(T, 0), most);
        return z;
    }

    /** Ends the READ by 13 and begins the next one, without CODES. */
    private static void again(ZInput z) {
        DUE.is("key(13)", z.key(13), 1);
        z.put(T + 1, 1, 0L);
        z.begin(T, 0);
    }

    private static void beginEarly() {
        for (int version = 1; version <= 4; version++) {
            DUE.run("begin, version " + version);
            for (int n : new int[] {0, 1, 2, 20, 128, 255}) {
                ZInput z = new ZInput(version);
                z.put(T, 4, n * 0x1000000L + 0x646464L);
                DUE.is("begin, n " + n, z.begin(T, P), n == 0 ? 0 : n - 1);
                DUE.is("told(0)", z.told(0), 1);
                DUE.is("told(1)", z.told(1), 0);
                DUE.is("told(2)", z.told(2), n == 0 ? 0 : n - 1);
                DUE.octets(z, T, n, 0x64, 0x64, 0x64);
            }
        }
    }

    private static void beginLate() {
        for (int version = 5; version <= 8; version++) {
            DUE.run("begin, version " + version);
            for (int n : new int[] {0, 1, 2, 20, 128, 255}) {
                ZInput z = new ZInput(version);
                z.put(T, 1, n);
                DUE.is("begin, n " + n, z.begin(T, P), n);
                DUE.is("told(1)", z.told(1), 0);
                DUE.is("told(2)", z.told(2), n);
            }
            ZInput z = new ZInput(version);
            Due.lay(z, T, 4, 4);
            Due.lay(z, T + 2, "A\0\u00ffz!");
            DUE.is("begin, all CODES are there", z.begin(T, P), 4);
            // The READ has its own CODES from now on.
            Due.lay(z, T, 9, 9, 'q', 'q');
            DUE.typed(z, "A\0\u00ffz");
            DUE.is("told(2)", z.told(2), 4);
            DUE.is("key(97)", z.key(97), 0);
            DUE.typed(z, "A\0\u00ffz");
        }
    }

    private static void beginRefusals() {
        DUE.run("begin's refusals");
        for (int version : new int[] {4, 5}) {
            ZInput z = new ZInput(version);
            for (int t : new int[] {0, -1, 4001, Integer.MIN_VALUE, Integer.MAX_VALUE}) {
                DUE.is("begin(" + t + ", 0)", z.begin(t, 0), ZInput.BAD);
            }
            for (int p : new int[] {-1, 4001, Integer.MIN_VALUE, Integer.MAX_VALUE}) {
                DUE.is("begin(1, " + p + ")", z.begin(1, p), ZInput.BAD);
            }
            z.put(T, 2, 0x0506L);
            DUE.is("begin, more CODES than may be", z.begin(T, 0), version == 4 ? 4 : ZInput.BAD);
            DUE.is("told(0)", z.told(0), version == 4 ? 1 : 0);
            if (version == 5) {
                z.put(4000, 2, 0xfeffL);
                DUE.is("begin, BAD before OUTSIDE", z.begin(4000, 0), ZInput.BAD);
                DUE.is("begin", z.begin(1, 4000), 0);
            }
            DUE.is("begin in a READ", z.begin(1, 0), ZInput.NO);
            DUE.is("begin, NO before BAD", z.begin(0, -1), ZInput.NO);
        }
    }

    private static void beginOutside() {
        DUE.run("begin OUTSIDE");
        ZInput z = new ZInput(4);
        z.put(4000, 1, 96L);
        DUE.is("begin, the 0 would be behind MEMORY", z.begin(4000, 0), ZInput.OUTSIDE);
        DUE.is("told(0)", z.told(0), 0);
        z.put(4000, 1, 95L);
        DUE.is("begin, all is within", z.begin(4000, 0), 94);
        for (int i = 0; i < 100; i++) {
            z.key('x');
        }
        DUE.is("key(13)", z.key(13), 1);
        DUE.octets(z, 4094, 'x', 0);
        z = new ZInput(5);
        z.put(4000, 1, 95L);
        DUE.is("begin, the last CODE would be behind MEMORY", z.begin(4000, 0), ZInput.OUTSIDE);
        DUE.is("told(0)", z.told(0), 0);
        z.put(4000, 1, 94L);
        DUE.is("begin, all is within", z.begin(4000, 0), 94);
        for (int i = 0; i < 100; i++) {
            z.key('x');
        }
        DUE.is("key(13)", z.key(13), 1);
        DUE.octets(z, 4094, 'x', 'x');
        DUE.octets(z, 4000, 94, 94, 'x');
    }

    private static void everyKey() {
        for (int version : new int[] {1, 4, 5, 8}) {
            DUE.run("every KEY, version " + version);
            ZInput z = reading(version, 3);
            for (int code = 0; code < 256; code++) {
                if (code == 8 || code == 13) {
                    continue;
                }
                if (code % 64 == 0) {
                    z = reading(version, 3);
                }
                boolean typable = code >= 32 && code <= 126 || code >= 155 && code <= 251;
                DUE.is("key(" + code + ")", z.key(code), 0);
                DUE.is("told(1) behind key(" + code + ")", z.told(1), typable ? 1 : 0);
                if (typable) {
                    int want = code >= 65 && code <= 90 ? code + 32 : code;
                    DUE.is("typed(0) behind key(" + code + ")", z.typed(0), want);
                    z.key(8);
                }
            }
        }
    }

    private static void fullLines() {
        DUE.run("lines that are full");
        ZInput z = reading(4, 2);
        Due.press(z, "abcd");
        DUE.typed(z, "ab");
        z.key(8);
        Due.press(z, "ef");
        DUE.typed(z, "ae");
        z = reading(5, 0);
        Due.press(z, "a\b");
        DUE.typed(z, "");
        z = reading(5, 255);
        for (int i = 0; i < 260; i++) {
            z.key(i % 26 + 97);
        }
        DUE.is("told(1)", z.told(1), 255);
        DUE.is("typed(254)", z.typed(254), 254 % 26 + 97);
        DUE.is("typed(255)", z.typed(255), ZInput.BAD);
        DUE.is("key(13)", z.key(13), 1);
        DUE.octets(z, T, 255, 255, 97);
        DUE.octets(z, T + 256, 254 % 26 + 97, 0);
    }

    private static void deleting() {
        DUE.run("deleting");
        ZInput z = reading(3, 9);
        DUE.is("key(8)", z.key(8), 0);
        Due.press(z, "abc\b\bd\b\b\b\bxy");
        DUE.typed(z, "xy");
        z = new ZInput(6);
        Due.lay(z, T, 9, 2, 'p', 'q');
        z.begin(T, 0);
        Due.press(z, "\br");
        DUE.typed(z, "pr");
        Due.press(z, "\b\b\b");
        DUE.typed(z, "");
    }

    private static void endingKeys() {
        for (int version = 3; version <= 8; version++) {
            DUE.run("ending keys, version " + version);
            for (int entry : new int[] {255, 0}) {
                for (int code = 127; code < 256; code++) {
                    boolean range = code >= 129 && code <= 154 || code >= 252 && code <= 254;
                    ZInput z = new ZInput(version);
                    // Either the octet for all, or the KEY itself behind another.
                    Due.lay(z, 50, 131, entry == 255 ? 255 : code, 0);
                    z.tables(0, 50);
                    z.put(T, 1, 9L);
                    z.begin(T, 0);
                    boolean ends = version >= 5 && range;
                    DUE.is("key(" + code + ")", z.key(code), ends ? 1 : 0);
                    DUE.is("told(6)", z.told(6), ends ? code : ZInput.NO);
                }
            }
        }
    }

    private static void theTable() {
        DUE.run("THE TABLE");
        ZInput z = new ZInput(5);
        z.put(T, 1, 9L);
        z.begin(T, 0);
        DUE.is("key, no table", z.key(140), 0);
        Due.lay(z, 50, 132, 0, 140, 255);
        z.tables(0, 50);
        DUE.is("key behind the first 0", z.key(140), 0);
        DUE.is("key not in the table", z.key(133), 0);
        z.put(51, 1, 8L);
        z.tables(0, 53);
        z.put(53, 1, 0L);
        DUE.is("key, an empty table", z.key(140), 0);
        z.tables(0, 50);
        // A table that is changed in the READ counts as it is when the KEY comes.
        DUE.is("key(8) is none that may end", z.key(8), 0);
        DUE.is("key(140)", z.key(140), 1);
        z = new ZInput(5);
        Due.lay(z, 0, 255);
        z.put(T, 1, 9L);
        z.begin(T, 0);
        DUE.is("key, address 0 is none", z.key(140), 0);
        z = new ZInput(5);
        for (int at = 4000; at < 4096; at += 8) {
            z.put(at, 8, 0x8282828282828282L);
        }
        z.put(4095, 1, 254L);
        z.tables(0, 4000);
        z.put(T, 1, 9L);
        z.begin(T, 0);
        DUE.is("key, a table up to MEMORY's end has it not", z.key(253), 0);
        DUE.is("key, a table up to MEMORY's end has it", z.key(254), 1);
        z = new ZInput(5);
        Due.lay(z, 50, 129, 0);
        z.tables(0, 50);
        z.put(T, 1, 9L);
        z.begin(T, 0);
        Due.press(z, "ab");
        DUE.is("key(129) ends", z.key(129), 1);
        DUE.kept(z, 0, "ab");
    }

    private static void linesAgain() {
        for (int version : new int[] {1, 4, 5}) {
            DUE.run("lines again, version " + version);
            ZInput z = reading(version, 9);
            DUE.is("key(129), none kept", z.key(129), 0);
            Due.press(z, "one");
            DUE.is("key(130), none shown", z.key(130), 0);
            DUE.typed(z, "one");
            again(z);
            Due.press(z, "two");
            again(z);
            Due.press(z, "three");
            again(z);
            Due.press(z, "x\u0082");
            DUE.typed(z, "x");
            String[] up = {"three", "two", "one", "one"};
            for (String line : up) {
                DUE.is("key(129)", z.key(129), 0);
                DUE.typed(z, line);
            }
            // Still shown, though it has been changed.
            Due.press(z, "\b!");
            DUE.typed(z, "on!");
            String[] down = {"two", "three", "", ""};
            for (String line : down) {
                DUE.is("key(130)", z.key(130), 0);
                DUE.typed(z, line);
            }
            Due.press(z, "y\u0082");
            DUE.typed(z, "y");
            Due.press(z, "\u0081\u0081+");
            DUE.typed(z, "two+");
            again(z);
            DUE.kept(z, 0, "two+");
            DUE.kept(z, 1, "three");
            // What the last READ showed is not shown in this one.
            Due.press(z, "z\u0082");
            DUE.typed(z, "z");
            z.key(129);
            DUE.typed(z, "two+");
        }
    }

    private static void linesCut() {
        DUE.run("lines cut");
        ZInput z = reading(5, 9);
        Due.press(z, "abcdef");
        z.key(13);
        z.put(T, 2, 0x0400L);
        DUE.is("begin", z.begin(T, 0), 4);
        z.key(129);
        DUE.typed(z, "abcd");
        z.key(13);
        DUE.kept(z, 0, "abcd");
        DUE.kept(z, 1, "abcdef");
        z.put(T, 2, 0L);
        DUE.is("begin", z.begin(T, 0), 0);
        z.key(129);
        z.key(129);
        DUE.typed(z, "");
        z.key(13);
        DUE.is("told(4)", z.told(4), 2);
    }

    private static void eightLines() {
        DUE.run("eight lines");
        ZInput z = reading(3, 9);
        for (int i = 0; i < 11; i++) {
            z.key('a' + i);
            z.key('0' + i % 10);
            again(z);
            DUE.is("told(4)", z.told(4), Math.min(i + 1, 8));
        }
        for (int k = 0; k < 8; k++) {
            int i = 10 - k;
            DUE.kept(z, k, "" + (char) ('a' + i) + (char) ('0' + i % 10));
        }
        DUE.is("kept(8, 0)", z.kept(8, 0), ZInput.BAD);
        for (int i = 0; i < 12; i++) {
            z.key(129);
        }
        DUE.typed(z, "d3");
        for (int i = 0; i < 7; i++) {
            z.key(130);
        }
        DUE.typed(z, "k0");
        z.key(130);
        DUE.typed(z, "");
    }

    private static void laidDown() {
        DUE.run("laid down");
        ZInput z = new ZInput(2);
        Due.lay(z, T, 9, 1, 2, 3, 4, 5);
        z.begin(T, 0);
        Due.press(z, "Ab");
        DUE.octets(z, T, 9, 1, 2, 3, 4, 5);
        z.key(13);
        DUE.octets(z, T, 9, 'a', 'b', 0, 4, 5);
        z.begin(T, 0);
        z.key(13);
        DUE.octets(z, T, 9, 0, 'b', 0, 4, 5);
        z = new ZInput(7);
        Due.lay(z, T, 9, 1, 'X', 3, 4, 5);
        z.begin(T, 0);
        Due.press(z, "Ab");
        DUE.octets(z, T, 9, 1, 'X', 3, 4, 5);
        z.key(13);
        DUE.octets(z, T, 9, 3, 'X', 'a', 'b', 5);
        z.begin(T, 0);
        Due.press(z, "\b\b\b\r");
        DUE.octets(z, T, 9, 0, 'X', 'a', 'b', 5);
        DUE.is("told(0)", z.told(0), 0);
        DUE.is("told(1)", z.told(1), 0);
        DUE.is("told(2)", z.told(2), 0);
    }

    private static void echoAndKeep() {
        DUE.run("echo and keep");
        ZInput z = new ZInput(5);
        Due.lay(z, 50, 255);
        z.tables(0, 50);
        z.put(T, 1, 9L);
        z.begin(T, 0);
        z.key(13);
        DUE.is("told(4), no CODES", z.told(4), 0);
        DUE.is("told(5), only 13", z.told(5), 1);
        DUE.is("echo(0)", z.echo(0), 13);
        z.begin(T, 0);
        Due.press(z, "hi");
        DUE.is("told(5), while it goes on", z.told(5), 1);
        DUE.is("key(252)", z.key(252), 1);
        DUE.is("told(6)", z.told(6), 252);
        DUE.is("told(4)", z.told(4), 1);
        DUE.is("told(5)", z.told(5), 4);
        DUE.is("echo(1)", z.echo(1), 'h');
        DUE.is("echo(2)", z.echo(2), 'i');
        DUE.is("echo(3), 13 whatever ended it", z.echo(3), 13);
        // The same line is kept again.
        z.begin(T, 0);
        z.key(13);
        DUE.is("told(4)", z.told(4), 2);
        DUE.kept(z, 0, "hi");
        DUE.kept(z, 1, "hi");
    }

    private static void parsed() {
        for (int version : new int[] {3, 5}) {
            DUE.run("parsed, version " + version);
            ZInput z = new ZInput(version);
            Due.lay(z, 1000, 1, ',', 6, 0, 1);
            Due.lay(z, 900, "go");
            z.pack(900, 2, 1005);
            z.tables(1000, 0);
            z.put(T, 1, 20L);
            Due.lay(z, P, 9, 77, 8, 8, 8, 8);
            z.begin(T, P);
            Due.press(z, "x,Go");
            DUE.octets(z, P, 9, 77, 8, 8);
            DUE.is("key(13)", z.key(13), 1);
            int first = version == 3 ? 1 : 2;
            DUE.octets(z, P, 9, 3, 0, 0, 1, first, 0, 0, 1, first + 1, 1005 / 256, 1005 % 256, 2, first + 2, 0);
            z.put(P + 1, 1, 77L);
            z.begin(T, 0);
            z.key(13);
            DUE.octets(z, 0, 0, 0, 0, 0);
            DUE.octets(z, P, 9, 77);
        }
    }

    private static void parsedOutside() {
        DUE.run("parsed OUTSIDE");
        ZInput z = new ZInput(5);
        z.put(T, 1, 20L);
        Due.lay(z, P, 9, 77);
        Due.lay(z, 1000, 0, 6, 127, 255);
        z.tables(1000, 0);
        z.begin(T, P);
        Due.press(z, "go");
        DUE.is("key(13)", z.key(13), ZInput.OUTSIDE);
        DUE.is("told(0)", z.told(0), 0);
        DUE.is("told(6)", z.told(6), 13);
        DUE.kept(z, 0, "go");
        DUE.is("told(5)", z.told(5), 3);
        DUE.octets(z, T, 20, 2, 'g', 'o');
        DUE.octets(z, P, 9, 77, 0);
        z.begin(T, 0);
        DUE.is("key(13), not to be parsed", z.key(13), 1);
        z.tables(0, 0);
        Due.lay(z, 4000, 200, 77);
        Due.lay(z, T, 60, 0);
        z.begin(T, 4000);
        for (int i = 0; i < 24; i++) {
            Due.press(z, "a ");
        }
        DUE.is("key(13), the WORDS end behind MEMORY", z.key(13), ZInput.OUTSIDE);
        DUE.octets(z, 4000, 200, 77, 0);
    }

    private static void keyRefusals() {
        DUE.run("key's refusals");
        ZInput z = new ZInput(5);
        for (int code : new int[] {-1, 0, 13, 97, 256}) {
            DUE.is("key(" + code + ") without a READ", z.key(code), ZInput.NO);
        }
        z.put(T, 1, 9L);
        z.begin(T, 0);
        for (int code : new int[] {-1, 256, 256 + 13, Integer.MIN_VALUE, Integer.MAX_VALUE}) {
            DUE.is("key(" + code + ")", z.key(code), ZInput.BAD);
        }
        DUE.typed(z, "");
        DUE.is("key(13)", z.key(13), 1);
        DUE.is("key(13) behind it", z.key(13), ZInput.NO);
    }
}
