/** The edges of the term PACKED: a test for each sentence that names one. */
final class PackedEdgesTest {
    private static final Due DUE = new Due("PackedEdgesTest");
    private static final int FROM = 100;
    private static final int TO = 200;

    public static void main(String[] args) {
        codesWithLetters();
        codesInTheRow();
        codesElse();
        shifts();
        rows();
        cut();
        cutWithinACode();
        filled();
        threeMakeAPair();
        lastPair();
        DUE.end();
    }

    /** The LETTERS that a version makes of CODES are these; all others are 5. */
    private static void letters(int version, String codes, int... want) {
        ZInput z = new ZInput(version);
        Due.lay(z, FROM, codes);
        z.pack(FROM, codes.length(), TO);
        int most = version <= 3 ? 6 : 9;
        for (int i = 0; i < most; i++) {
            int pair = z.at(TO + i / 3 * 2) * 256 + z.at(TO + i / 3 * 2 + 1);
            int letter = pair >> 10 - i % 3 * 5 & 31;
            DUE.is("version " + version + ", LETTER " + i + " of " + codes.length() + " CODES, the first "
                    + (codes.isEmpty() ? -1 : codes.charAt(0)), letter, i < want.length ? want[i] : 5);
        }
    }

    private static void codesWithLetters() {
        DUE.sentence("32: 0; a .. z: 6 .. 31; A .. Z: UP, then 6 .. 31;");
        for (int version = 3; version <= 4; version++) {
            letters(version, "\u001f", 5, 6, 0, 31);
            letters(version, " ", 0);
            letters(version, "!", 5, 20);
            letters(version, "`", 5, 6, 3, 0);
            letters(version, "a", 6);
            letters(version, "z", 31);
            letters(version, "{", 5, 6, 3, 27);
            letters(version, "@", 5, 6, 2, 0);
            letters(version, "A", 4, 6);
            letters(version, "Z", 4, 31);
            letters(version, "[", 5, 6, 2, 27);
        }
    }

    private static void codesInTheRow() {
        DUE.sentence("another one that is in THE ROW: ASIDE, then its place there and 7;");
        letters(1, "0", 3, 7);
        letters(1, ")", 3, 31);
        letters(2, "\r", 3, 7);
        letters(2, ")", 3, 31);
        letters(8, "\r", 5, 7);
        letters(8, "0", 5, 8);
        letters(8, ")", 5, 31);
    }

    private static void codesElse() {
        DUE.sentence("all else: ASIDE, 6, the CODE by 32, the CODE modulo 32.");
        for (int version = 1; version <= 8; version++) {
            int aside = version <= 2 ? 3 : 5;
            letters(version, "\0", aside, 6, 0, 0);
            letters(version, "\u001f", aside, 6, 0, 31);
            letters(version, "~", aside, 6, 3, 30);
            letters(version, "\u00e0", aside, 6, 7, 0);
            letters(version, "\u00ff", aside, 6, 7, 31);
        }
    }

    private static void shifts() {
        DUE.sentence("UP and ASIDE are 2 and 3 in V 1 and 2, 4 and 5 from V 3 on.");
        for (int version = 1; version <= 8; version++) {
            letters(version, "A.", version <= 2 ? 2 : 4, 6, version <= 2 ? 3 : 5, version == 1 ? 17 : 18);
        }
    }

    private static void rows() {
        DUE.sentence("THE ROW is 0123456789.,!?_#'\"/\\&lt;-:() in V 1, "
                + "from V 2 on the CODE 13, then 0123456789.,!?_#'\"/\\-:().");
        for (int version = 1; version <= 8; version++) {
            String row = version == 1 ? "0123456789.,!?_#'\"/\\<-:()" : "\r0123456789.,!?_#'\"/\\-:()";
            for (int place = 0; place < 25; place++) {
                letters(version, row.substring(place, place + 1), version <= 2 ? 3 : 5, place + 7);
            }
        }
        letters(1, "\r", 3, 6, 0, 13);
        letters(1, "\\<-", 3, 26, 3, 27, 3, 28);
        letters(1, "&", 3, 6, 1, 6);
        letters(1, ";", 3, 6, 1, 27);
        for (int version = 2; version <= 8; version++) {
            int aside = version <= 2 ? 3 : 5;
            letters(version, "\r0\\", aside, 7, aside, 8, aside, 27);
            letters(version, "<", aside, 6, 1, 28);
            letters(version, "-", aside, 28);
        }
    }

    private static void cut() {
        DUE.sentence("are cut to 6 (V 1 to 3), 9 (from V 4 on),");
        for (int version = 1; version <= 8; version++) {
            letters(version, "abcdefghij", 6, 7, 8, 9, 10, 11, 12, 13, 14);
            letters(version, "abcdefghi", 6, 7, 8, 9, 10, 11, 12, 13, 14);
            letters(version, "abcdefg" + "z".repeat(248), 6, 7, 8, 9, 10, 11, 12, 31, 31);
            letters(version, "abcdef", 6, 7, 8, 9, 10, 11);
            DUE.is("pack, version " + version, new ZInput(version).pack(0, 9, 100), version <= 3 ? 4 : 6);
        }
    }

    /** Not the CODES but the LETTERS are cut. */
    private static void cutWithinACode() {
        DUE.sentence("The LETTERS of a row of CODES, one behind the other, are cut");
        letters(3, "abcdeZ", 6, 7, 8, 9, 10, 4);
        letters(3, "abcde.", 6, 7, 8, 9, 10, 5);
        letters(3, "abc@", 6, 7, 8, 5, 6, 2);
        letters(3, "abcd@", 6, 7, 8, 9, 5, 6);
        letters(4, "abcdefghZ", 6, 7, 8, 9, 10, 11, 12, 13, 4);
        letters(4, "abcdef\u00ff", 6, 7, 8, 9, 10, 11, 5, 6, 7);
    }

    private static void filled() {
        DUE.sentence("or filled up with 5 to that many.");
        for (int version = 1; version <= 8; version++) {
            letters(version, "", 5, 5, 5, 5, 5, 5, 5, 5, 5);
            letters(version, "a", 6, 5, 5, 5, 5, 5, 5, 5, 5);
            letters(version, "abcde", 6, 7, 8, 9, 10, 5, 5, 5, 5);
            letters(version, "abcdefgh", 6, 7, 8, 9, 10, 11, 12, 13, 5);
        }
        // Nothing of the word before it is left.
        ZInput z = new ZInput(5);
        Due.lay(z, FROM, "zzzzzzzzz");
        z.pack(FROM, 9, TO);
        z.pack(FROM, 0, TO);
        DUE.octets(z, TO, 0x14, 0xa5, 0x14, 0xa5, 0x94, 0xa5);
    }

    private static void threeMakeAPair() {
        DUE.sentence("Three make a u2 (the first times 1024, the second times 32, the third),");
        for (String[] pair : new String[][] {{"z  ", "7c00"}, {" z ", "03e0"}, {"  z", "001f"}, {"   ", "0000"}, {"zzz", "7fff"}}) {
            ZInput z = new ZInput(5);
            Due.lay(z, FROM, pair[0].repeat(3));
            z.pack(FROM, 9, TO);
            int want = Integer.parseInt(pair[1], 16);
            DUE.octets(z, TO, want / 256, want % 256, want / 256, want % 256, want / 256 + 128, want % 256);
        }
    }

    private static void lastPair() {
        DUE.sentence("the last one of which has 32768, too: 4 octets, or 6.");
        for (int version = 1; version <= 8; version++) {
            ZInput z = new ZInput(version);
            Due.lay(z, FROM, "zzzzzzzzz");
            Due.lay(z, TO, 1, 2, 3, 4, 5, 6, 7);
            boolean early = version <= 3;
            DUE.is("pack, version " + version, z.pack(FROM, 9, TO), early ? 4 : 6);
            if (early) {
                DUE.octets(z, TO, 0x7f, 0xff, 0xff, 0xff, 5, 6, 7);
            } else {
                DUE.octets(z, TO, 0x7f, 0xff, 0x7f, 0xff, 0xff, 0xff, 7);
            }
        }
    }
}
