/** The edges of the term A READ: a test for each sentence that names one. */
final class ReadEdgesTest {
    private static final Due DUE = new Due("ReadEdgesTest");
    private static final int T = Setting.TEXT;
    private static final int P = Setting.PARSED;
    private static final int TABLE = Setting.TABLE;
    private static final int D = Setting.DICTIONARY;
    private static final String OLDER = "\u0081";
    private static final String NEWER = "\u0082";

    public static void main(String[] args) {
        notParsed();
        room();
        codesAtFirst();
        firstThatFits();
        endingKeys();
        tableUpToZero();
        tableUpToTheEnd();
        noTable();
        deleting();
        olderLines();
        olderLinesCut();
        noOlderLine();
        newerLines();
        noNewerLine();
        typing();
        typingWhenFull();
        otherKeys();
        laidDownEarly();
        laidDownLate();
        linesKept();
        eightLinesKept();
        longestLinesKept();
        echoed();
        parsedWithoutFlag();
        endedByTheKey();
        DUE.end();
    }

    private static void ends(ZInput z, int code) {
        DUE.is("key(" + code + ")", z.key(code), 1);
        DUE.is("told(0) behind key(" + code + ")", z.told(0), 0);
    }

    private static void goesOn(ZInput z, int code) {
        DUE.is("key(" + code + ")", z.key(code), 0);
        DUE.is("told(0) behind key(" + code + ")", z.told(0), 1);
    }

    /** A READ that goes on, with these octets as THE TABLE. */
    private static ZInput withTable(int version, int... octets) {
        ZInput z = new ZInput(version);
        Due.lay(z, TABLE, octets);
        z.tables(0, TABLE);
        z.put(T, 1, 9L);
        z.begin(T, 0);
        return z;
    }

    private static void notParsed() {
        DUE.sentence("A READ goes on at a TEXT t, into p (0: it is not PARSED).");
        for (int version : new int[] {4, 5}) {
            ZInput z = new ZInput(version);
            Due.lay(z, 0, 9, 77, 7, 7, 7, 7);
            Due.lay(z, 3000, 0, 6, 127, 255);
            z.tables(3000, 0);
            z.put(T, 1, 9L);
            z.begin(T, 0);
            Due.press(z, "ab");
            // Not PARSED at all: neither into address 0, nor by a DICTIONARY that is OUTSIDE.
            ends(z, 13);
            DUE.octets(z, 0, 9, 77, 7, 7, 7, 7);
            z.tables(D, 0);
            Due.lay(z, 1, 9, 77, 7, 7, 7, 7);
            z.put(T + 1, 1, 0L);
            z.begin(T, 1);
            z.key('a');
            ends(z, 13);
            DUE.octets(z, 1, 9, 1, 0, 0, 1, version == 4 ? 1 : 2);
        }
    }

    private static void room() {
        DUE.sentence("There may be n - 1 CODES in V 1 to 4 (none, if n is 0), n from V 5 on;");
        for (int version = 1; version <= 8; version++) {
            for (int n : new int[] {0, 1, 2, 127, 128, 129, 254, 255}) {
                ZInput z = new ZInput(version);
                z.put(T, 1, n);
                int most = version >= 5 ? n : n == 0 ? 0 : n - 1;
                DUE.is("begin, version " + version + ", n " + n, z.begin(T, 0), most);
                DUE.is("told(2)", z.told(2), most);
                for (int i = 0; i <= most; i++) {
                    z.key('a');
                }
                DUE.is("told(1), version " + version + ", n " + n, z.told(1), most);
            }
        }
    }

    private static void codesAtFirst() {
        DUE.sentence("there are none at first in V 1 to 4, from V 5 on as many as AT t + 1 tells, from t + 2 on.");
        for (int version = 1; version <= 8; version++) {
            for (int there = 0; there <= 4; there++) {
                ZInput z = new ZInput(version);
                Due.lay(z, T, 4, there, 'Q', 0, 13, 255);
                DUE.is("begin, " + there + " there", z.begin(T, 0), version >= 5 ? 4 : 3);
                DUE.typed(z, version >= 5 ? "Q\0\r\u00ff".substring(0, there) : "");
            }
        }
        ZInput z = new ZInput(5);
        z.put(T, 2, 0xffffL);
        Due.lay(z, T + 2, "x".repeat(254) + "yz");
        DUE.is("begin, 255 there", z.begin(T, 0), 255);
        DUE.is("told(1)", z.told(1), 255);
        DUE.is("typed(254)", z.typed(254), 'y');
    }

    private static void firstThatFits() {
        DUE.sentence("A KEY is, the first that fits:");
        // 129 and 130 END the READ where THE TABLE has them, and show no LINE.
        for (int code = 129; code <= 130; code++) {
            for (int octet : new int[] {code, 255}) {
                ZInput z = withTable(5, 0);
                Setting.lines(z, "one", "two");
                z.key(129);
                z.put(TABLE, 1, octet);
                ends(z, code);
                DUE.kept(z, 0, "two");
                DUE.is("told(6)", z.told(6), code);
            }
        }
    }

    private static void endingKeys() {
        DUE.sentence("an ENDING one, 13, or, from V 5 on, 129 .. 154, 252 .. 254, if THE TABLE has it or 255");
        for (int version = 1; version <= 8; version++) {
            for (int code : new int[] {12, 13, 14, 32, 126, 127, 128, 129, 130, 131, 153, 154, 155, 251, 252, 253, 254, 255}) {
                boolean may = code >= 129 && code <= 154 || code >= 252 && code <= 254;
                for (int octet : new int[] {code, 255}) {
                    ZInput z = withTable(version, octet);
                    if (code == 13 || version >= 5 && may) {
                        ends(z, code);
                    } else {
                        goesOn(z, code);
                    }
                }
                ZInput z = withTable(version, code ^ 1, code + 1 & 127, code - 1);
                if (code == 13) {
                    ends(z, code);
                } else if (code != 254) {
                    // 254 and 1 is 255, which stands for all.
                    goesOn(z, code);
                }
            }
        }
    }

    private static void tableUpToZero() {
        DUE.sentence("THE TABLE is the octets from its address on, up to the first 0,");
        goesOn(withTable(5, 0, 140, 255), 140);
        goesOn(withTable(5, 141, 0, 140, 255), 140);
        ends(withTable(5, 141, 140, 0), 140);
        ends(withTable(5, 141, 255, 0), 140);
        ends(withTable(5, 255, 0), 254);
        ZInput z = withTable(5, 140, 141, 0);
        z.tables(0, TABLE + 1);
        goesOn(z, 140);
        ends(z, 141);
    }

    private static void tableUpToTheEnd() {
        DUE.sentence("or MEMORY's end;");
        for (int last : new int[] {254, 255}) {
            ZInput z = new ZInput(5);
            for (int at = 4000; at < 4096; at += 8) {
                z.put(at, 8, 0x8989898989898989L);
            }
            // What stands at MEMORY's beginning is not behind its end.
            Due.lay(z, 0, 252, 255);
            z.put(4095, 1, last);
            z.put(T, 1, 9L);
            z.tables(0, 4000);
            z.begin(T, 0);
            if (last == 254) {
                goesOn(z, 252);
            }
            ends(z, 254);
        }
    }

    private static void noTable() {
        DUE.sentence("with address 0, and before V 5, there is none");
        for (int code : new int[] {129, 130, 131, 154, 252, 254}) {
            ZInput z = withTable(5, 255);
            z.tables(0, 0);
            Due.lay(z, 0, code, 255);
            goesOn(z, code);
            z.tables(0, 1);
            ends(z, code);
            for (int version = 1; version <= 4; version++) {
                z = withTable(version, code, 255);
                goesOn(z, code);
                ends(z, 13);
            }
        }
    }

    private static void deleting() {
        DUE.sentence("8: the last CODE goes, if there is one;");
        ZInput z = Setting.reading(4, 3);
        goesOn(z, 8);
        DUE.typed(z, "");
        Due.press(z, "abcd\b");
        DUE.typed(z, "ab");
        Due.press(z, "\b\b\b");
        DUE.typed(z, "");
        Due.press(z, "e");
        DUE.typed(z, "e");
        z = new ZInput(5);
        Due.lay(z, T, 2, 2, 'p', 'q');
        z.begin(T, 0);
        z.key(8);
        DUE.typed(z, "p");
        // THE TABLE can't make it an ENDING one.
        z = withTable(5, 8, 255);
        z.key('a');
        goesOn(z, 8);
        DUE.typed(z, "");
    }

    private static void olderLines() {
        DUE.sentence("129: the latest LINE that is kept, or, if one is shown in this READ, "
                + "the one kept before that one, comes in place of all CODES");
        for (int version : new int[] {1, 4, 5, 8}) {
            ZInput z = Setting.reading(version, 9);
            Setting.lines(z, "first", "b", "third");
            Due.press(z, "xyz");
            for (String line : new String[] {"third", "b", "first"}) {
                goesOn(z, 129);
                DUE.typed(z, line);
                // It is the one shown, whatever has become of its CODES.
                Due.press(z, "\b\b?");
            }
            ends(z, 13);
            DUE.kept(z, 0, "fir?");
            DUE.kept(z, 1, "third");
            // In the next READ none is shown.
            Setting.again(z, 0);
            goesOn(z, 129);
            DUE.typed(z, "fir?");
        }
    }

    private static void olderLinesCut() {
        DUE.sentence("(as many of it as there may be), and is shown;");
        for (int most : new int[] {0, 1, 5, 6, 7}) {
            ZInput z = Setting.reading(5, 9);
            Setting.lines(z, "UVWXYZ", "abcdef");
            z.key(13);
            z.put(T, 2, most * 256L);
            z.begin(T, 0);
            z.key(129);
            DUE.typed(z, "abcdef".substring(0, Math.min(most, 6)));
            z.key(129);
            DUE.typed(z, "uvwxyz".substring(0, Math.min(most, 6)));
            z.key(130);
            DUE.typed(z, "abcdef".substring(0, Math.min(most, 6)));
            z.key('!');
            DUE.typed(z, ("abcdef".substring(0, Math.min(most, 6)) + "!").substring(0, most));
            // The LINE itself is whole.
            DUE.kept(z, 0, "abcdef");
        }
    }

    private static void noOlderLine() {
        DUE.sentence("if there is none such, nothing;");
        ZInput z = Setting.reading(5, 9);
        Due.press(z, "ab" + OLDER);
        DUE.typed(z, "ab");
        Setting.lines(z, "", "", "two");
        // "ab" and "two" are kept, what was empty between them is not; before the oldest there is none.
        Due.press(z, OLDER + OLDER);
        DUE.typed(z, "ab");
        Due.press(z, "c" + OLDER + OLDER);
        DUE.typed(z, "abc");
        Due.press(z, NEWER);
        DUE.typed(z, "two");
        z = Setting.reading(5, 9);
        Setting.lines(z, "a", "b", "c", "d", "e", "f", "g", "h", "i");
        Due.press(z, OLDER.repeat(8));
        DUE.typed(z, "b");
        Due.press(z, "!" + OLDER);
        DUE.typed(z, "b!");
    }

    private static void newerLines() {
        DUE.sentence("130: if one is shown, the one that was kept behind it, likewise "
                + "(behind the latest one: no CODES, and none is shown),");
        for (int version : new int[] {1, 4, 5, 8}) {
            ZInput z = Setting.reading(version, 9);
            Setting.lines(z, "one", "two", "three");
            Due.press(z, OLDER.repeat(3) + "x");
            for (String line : new String[] {"two", "three", ""}) {
                goesOn(z, 130);
                DUE.typed(z, line);
                Due.press(z, "y");
            }
            // None is shown: 130 does nothing, 129 begins with the latest.
            Due.press(z, NEWER);
            DUE.typed(z, "y");
            Due.press(z, OLDER);
            DUE.typed(z, "three");
            Due.press(z, "z" + NEWER);
            DUE.typed(z, "");
        }
    }

    private static void noNewerLine() {
        DUE.sentence("else nothing;");
        ZInput z = Setting.reading(5, 9);
        Due.press(z, "ab" + NEWER);
        DUE.typed(z, "ab");
        Setting.lines(z, "", "two");
        Due.press(z, "cd" + NEWER);
        DUE.typed(z, "cd");
        // What the READ before showed is shown no more.
        Due.press(z, OLDER);
        Setting.lines(z, "");
        Due.press(z, "ef" + NEWER);
        DUE.typed(z, "ef");
    }

    private static void typing() {
        DUE.sentence("32 .. 126, 155 .. 251: it is one CODE more, A .. Z as a .. z,");
        for (int version : new int[] {1, 4, 5, 8}) {
            ZInput z = Setting.reading(version, 20);
            Due.press(z, " ~\u009b\u00fb@AZ[`az{\u00c0\u00de");
            DUE.typed(z, " ~\u009b\u00fb@az[`az{\u00c0\u00de");
        }
    }

    private static void typingWhenFull() {
        DUE.sentence("if there may be one more;");
        for (int version : new int[] {4, 5}) {
            for (int most : new int[] {0, 1, 2, 254}) {
                ZInput z = Setting.reading(version, most);
                for (int i = 0; i < most; i++) {
                    goesOn(z, 'a');
                }
                DUE.is("told(1), full", z.told(1), most);
                goesOn(z, 'b');
                goesOn(z, 200);
                DUE.is("told(1), full", z.told(1), most);
                DUE.is("typed, behind the last", z.typed(most), ZInput.BAD);
                if (most > 0) {
                    DUE.is("typed, the last", z.typed(most - 1), 'a');
                    z.key(8);
                    goesOn(z, 'c');
                    DUE.is("typed, room again", z.typed(most - 1), 'c');
                }
            }
        }
        ZInput z = new ZInput(5);
        Due.lay(z, T, 2, 2, 'p', 'q');
        z.begin(T, 0);
        goesOn(z, 'r');
        DUE.typed(z, "pq");
    }

    private static void otherKeys() {
        DUE.sentence("5 any other: nothing.");
        for (int version : new int[] {3, 5}) {
            ZInput z = Setting.reading(version, 9);
            Setting.lines(z, "line");
            Due.press(z, "ab");
            for (int code : new int[] {0, 1, 7, 9, 10, 12, 14, 27, 31, 127, 128, 131, 132, 153, 154, 252, 253, 254, 255}) {
                goesOn(z, code);
                DUE.typed(z, "ab");
            }
            Due.press(z, NEWER);
            DUE.typed(z, "ab");
        }
    }

    private static void laidDownEarly() {
        DUE.sentence("the CODES are laid down: of V 1 to 4 from t + 1 on, and a 0;");
        for (int version = 1; version <= 4; version++) {
            for (int count = 0; count <= 3; count++) {
                ZInput z = new ZInput(version);
                Due.lay(z, T, 4, 1, 2, 3, 4, 5);
                z.begin(T, 0);
                Due.press(z, "abcd".substring(0, count));
                DUE.octets(z, T, 4, 1, 2, 3, 4, 5);
                ends(z, 13);
                DUE.octets(z, T, 4);
                for (int i = 0; i < 5; i++) {
                    DUE.octets(z, T + 1 + i, i < count ? 'a' + i : i == count ? 0 : i + 1);
                }
            }
            ZInput z = new ZInput(version);
            Due.lay(z, T, 0, 1, 2);
            z.begin(T, 0);
            z.key('a');
            ends(z, 13);
            DUE.octets(z, T, 0, 0, 2);
            z = Setting.reading(version, 254);
            for (int i = 0; i < 255; i++) {
                z.key('a');
            }
            z.put(T + 254, 3, 0x010203L);
            ends(z, 13);
            DUE.octets(z, T + 253, 'a', 'a', 0, 3);
        }
    }

    private static void laidDownLate() {
        DUE.sentence("from V 5 on how many at t + 1, they from t + 2 on.");
        for (int version = 5; version <= 8; version++) {
            for (int count = 0; count <= 3; count++) {
                ZInput z = new ZInput(version);
                Due.lay(z, T, 3, 0, 2, 3, 4, 5);
                z.begin(T, 0);
                Due.press(z, "abcd".substring(0, count));
                DUE.octets(z, T, 3, 0, 2, 3, 4, 5);
                ends(z, 13);
                DUE.octets(z, T, 3, count);
                for (int i = 0; i < 4; i++) {
                    DUE.octets(z, T + 2 + i, i < count ? 'a' + i : i + 2);
                }
            }
            ZInput z = new ZInput(version);
            Due.lay(z, T, 0, 0, 2);
            z.begin(T, 0);
            z.key('a');
            ends(z, 13);
            DUE.octets(z, T, 0, 0, 2);
            z = Setting.reading(version, 255);
            for (int i = 0; i < 256; i++) {
                z.key('a');
            }
            z.put(T + 255, 3, 0x010203L);
            ends(z, 13);
            DUE.octets(z, T, 255, 255, 'a');
            DUE.octets(z, T + 255, 'a', 'a', 3);
        }
    }

    private static void linesKept() {
        DUE.sentence("If there are some, THE LINE is kept");
        for (int version : new int[] {4, 5}) {
            ZInput z = Setting.reading(version, 9);
            ends(z, 13);
            DUE.is("told(4), no CODES", z.told(4), 0);
            DUE.is("kept(0, 0)", z.kept(0, 0), ZInput.BAD);
            Setting.again(z, 0);
            Due.press(z, "a\b");
            ends(z, 13);
            DUE.is("told(4), none any more", z.told(4), 0);
            Setting.again(z, 0);
            Due.press(z, " ");
            ends(z, 13);
            DUE.is("told(4), one CODE", z.told(4), 1);
            DUE.kept(z, 0, " ");
        }
        ZInput z = new ZInput(5);
        z.put(T, 2, 0xffffL);
        Due.lay(z, T + 2, "x".repeat(254) + "y");
        z.begin(T, 0);
        ends(z, 13);
        DUE.is("kept(0, 254)", z.kept(0, 254), 'y');
        DUE.is("kept(0, 255)", z.kept(0, 255), ZInput.BAD);
    }

    private static void eightLinesKept() {
        DUE.sentence("(the latest 8 are)");
        ZInput z = Setting.reading(5, 9);
        for (int i = 0; i < 17; i++) {
            Setting.lines(z, String.valueOf((char) ('a' + i)).repeat(1 + i % 3));
            DUE.is("told(4), " + (i + 1) + " came", z.told(4), Math.min(i + 1, 8));
            if (i == 6 || i == 7 || i == 8 || i == 15 || i == 16) {
                int oldest = Math.max(0, i - 7);
                DUE.kept(z, 0, String.valueOf((char) ('a' + i)).repeat(1 + i % 3));
                DUE.kept(z, i - oldest, String.valueOf((char) ('a' + oldest)).repeat(1 + oldest % 3));
                DUE.is("kept, before the oldest", z.kept(i - oldest + 1, 0), ZInput.BAD);
            }
        }
    }

    /** LINES of as many CODES as can be: each has its own, and no other's. */
    private static void longestLinesKept() {
        DUE.sentence("THE LINE is kept (the latest 8 are).");
        ZInput z = new ZInput(5);
        z.put(T, 1, 255L);
        for (int i = 0; i < 11; i++) {
            z.put(T + 1, 2, 255 * 256 + 'a' + i);
            z.put(T + 256, 1, 'A' + i);
            z.begin(T, 0);
            ends(z, 13);
            for (int k = 0; k < 8 && k <= i; k++) {
                DUE.is("kept(" + k + ", 0)", z.kept(k, 0), 'a' + i - k);
                DUE.is("kept(" + k + ", 254)", z.kept(k, 254), 'A' + i - k);
            }
            DUE.is("kept(-1, 0)", z.kept(-1, 0), ZInput.BAD);
            DUE.is("kept(8, 0)", z.kept(8, 0), ZInput.BAD);
        }
        Setting.again(z, 0);
        Due.press(z, OLDER + NEWER);
        DUE.typed(z, "");
        Due.press(z, NEWER);
        DUE.typed(z, "");
    }

    private static void echoed() {
        DUE.sentence("They, and 13, come to THE ECHO.");
        ZInput z = withTable(5, 252, 0);
        DUE.is("told(5)", z.told(5), 0);
        ends(z, 13);
        DUE.is("told(5), no CODES", z.told(5), 1);
        DUE.is("echo(0)", z.echo(0), 13);
        Setting.again(z, 0);
        Due.press(z, "A");
        DUE.is("told(5), it goes on", z.told(5), 1);
        ends(z, 252);
        DUE.is("told(5), one CODE", z.told(5), 3);
        DUE.is("echo(1)", z.echo(1), 'a');
        DUE.is("echo(2)", z.echo(2), 13);
    }

    private static void parsedWithoutFlag() {
        DUE.sentence("Then, if p is not 0, it is PARSED by THE DICTIONARY told, without the flag.");
        for (int version : new int[] {3, 5}) {
            ZInput z = new ZInput(version);
            Setting.dictionary(z, D, "", 6, "b");
            z.tables(D, 0);
            z.put(T, 1, 20L);
            Due.lay(z, P, 9, 77, 7, 7, 7, 7, 7, 7, 7, 7, 7);
            z.begin(T, P);
            Due.press(z, "a B");
            DUE.octets(z, P, 9, 77, 7);
            ends(z, 13);
            int first = version == 3 ? 1 : 2;
            DUE.octets(z, P, 9, 2, 0, 0, 1, first, (D + 4) / 256, (D + 4) % 256, 1, first + 2, 7);
            Setting.again(z, P);
            ends(z, 13);
            DUE.octets(z, P, 9, 0, 0, 0, 1, first);
            // By the one that was told last, though it was told in the READ.
            Setting.again(z, P);
            Due.press(z, "b");
            z.tables(D + 500, 0);
            ends(z, 13);
            DUE.octets(z, P, 9, 1, 0, 0, 1, first);
        }
    }

    private static void endedByTheKey() {
        DUE.sentence("ENDED is the KEY.");
        for (int code : new int[] {13, 129, 130, 154, 252, 254}) {
            ZInput z = withTable(5, 255);
            DUE.is("told(6), none ENDED", z.told(6), ZInput.NO);
            ends(z, code);
            DUE.is("told(6)", z.told(6), code);
            Setting.again(z, 0);
            DUE.is("told(6), in the next READ", z.told(6), code);
        }
    }
}
