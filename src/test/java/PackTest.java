/** Promise 4: pack. */
final class PackTest {
    private static final Due DUE = new Due("PackTest");
    private static final String FIRST_ROW = "0123456789.,!?_#'\"/\\<-:()";
    private static final String LATER_ROW = "\r0123456789.,!?_#'\"/\\-:()";

    public static void main(String[] args) {
        everyCode();
        rowsOfCodes();
        lengths();
        overlap();
        refusals();
        DUE.end();
    }

    /** Three LETTERS as the two octets of a u2. */
    private static int[] pair(int a, int b, int c, boolean last) {
        int u2 = a * 1024 + b * 32 + c + (last ? 32768 : 0);
        return new int[] {u2 / 256, u2 % 256};
    }

    private static void packs(ZInput z, int version, String text, int... letters) {
        int most = version <= 3 ? 6 : 9;
        int[] all = new int[most];
        for (int i = 0; i < most; i++) {
            all[i] = i < letters.length ? letters[i] : 5;
        }
        Due.lay(z, 100, text);
        DUE.is("pack(100, " + text.length() + ", 200)", z.pack(100, text.length(), 200), most / 3 * 2);
        for (int i = 0; i < most; i += 3) {
            DUE.octets(z, 200 + i / 3 * 2, pair(all[i], all[i + 1], all[i + 2], i == most - 3));
        }
    }

    private static void everyCode() {
        for (int version = 1; version <= 8; version++) {
            DUE.run("every CODE, version " + version);
            int up = version <= 2 ? 2 : 4;
            int aside = version <= 2 ? 3 : 5;
            String row = version == 1 ? FIRST_ROW : LATER_ROW;
            ZInput z = new ZInput(version);
            for (int code = 0; code < 256; code++) {
                if (code % 32 == 0) {
                    z = new ZInput(version);
                }
                String text = String.valueOf((char) code);
                int place = row.indexOf(code);
                if (code == 32) {
                    packs(z, version, text, 0);
                } else if (code >= 97 && code <= 122) {
                    packs(z, version, text, code - 91);
                } else if (code >= 65 && code <= 90) {
                    packs(z, version, text, up, code - 59);
                } else if (place >= 0) {
                    packs(z, version, text, aside, place + 7);
                } else {
                    packs(z, version, text, aside, 6, code >> 5, code & 31);
                }
            }
        }
    }

    private static void rowsOfCodes() {
        DUE.run("rows of CODES");
        packs(new ZInput(3), 3, "", 5, 5, 5, 5, 5, 5);
        packs(new ZInput(3), 3, "abcdef", 6, 7, 8, 9, 10, 11);
        packs(new ZInput(3), 3, "abcdefgh", 6, 7, 8, 9, 10, 11);
        packs(new ZInput(8), 8, "abcdefghijk", 6, 7, 8, 9, 10, 11, 12, 13, 14);
        packs(new ZInput(4), 4, "abcdefgh", 6, 7, 8, 9, 10, 11, 12, 13, 5);
        packs(new ZInput(2), 2, "aB\r<", 6, 2, 7, 3, 7, 3);
        packs(new ZInput(1), 1, "<<<-", 3, 27, 3, 27, 3, 27);
        packs(new ZInput(1), 1, "\r", 3, 6, 0, 13);
        // Cut in the midst of a CODE's LETTERS.
        packs(new ZInput(3), 3, "abcdeZ", 6, 7, 8, 9, 10, 4);
        packs(new ZInput(3), 3, "abcd@", 6, 7, 8, 9, 5, 6);
        packs(new ZInput(5), 5, "\u00ff\u0000@", 5, 6, 7, 31, 5, 6, 0, 0, 5);
    }

    private static void lengths() {
        DUE.run("lengths");
        ZInput z = new ZInput(3);
        DUE.is("pack(0, 255, 300)", z.pack(0, 255, 300), 4);
        DUE.is("pack(3841, 255, 300)", z.pack(3841, 255, 300), 4);
        DUE.is("pack(0, 0, 4092)", z.pack(0, 0, 4092), 4);
        DUE.octets(z, 4091, 0, 0x14, 0xa5, 0x94, 0xa5);
        DUE.is("pack(-7, 0, 300)", z.pack(-7, 0, 300), 4);
        DUE.is("pack(9999, 0, 300)", z.pack(9999, 0, 300), 4);
        z = new ZInput(4);
        DUE.is("pack(0, 0, 4090)", z.pack(0, 0, 4090), 6);
        DUE.octets(z, 4089, 0, 0x14, 0xa5, 0x14, 0xa5, 0x94, 0xa5);
    }

    private static void overlap() {
        DUE.run("overlap");
        ZInput z = new ZInput(3);
        Due.lay(z, 100, "abcdef");
        z.pack(100, 6, 200);
        int[] want = {z.at(200), z.at(201), z.at(202), z.at(203)};
        z.pack(100, 6, 101);
        DUE.octets(z, 100, 'a', want[0], want[1], want[2], want[3], 'f');
    }

    private static void refusals() {
        DUE.run("refusals");
        for (int version : new int[] {3, 4}) {
            ZInput z = new ZInput(version);
            for (int n : new int[] {-1, 256, Integer.MIN_VALUE, Integer.MAX_VALUE}) {
                DUE.is("pack(0, " + n + ", 0)", z.pack(0, n, 0), ZInput.BAD);
                DUE.is("pack(-1, " + n + ", -1)", z.pack(-1, n, -1), ZInput.BAD);
            }
            int tooFar = version == 3 ? 4093 : 4091;
            for (int to : new int[] {-1, tooFar, 4096, Integer.MIN_VALUE, Integer.MAX_VALUE}) {
                DUE.is("pack(0, 1, " + to + ")", z.pack(0, 1, to), ZInput.OUTSIDE);
                DUE.is("pack(" + to + ", 6, 0)", z.pack(to, 6, 0), ZInput.OUTSIDE);
            }
            DUE.is("pack(3842, 255, 0)", z.pack(3842, 255, 0), ZInput.OUTSIDE);
            DUE.octets(z, 0, 0, 0, 0, 0);
            DUE.octets(z, 4090, 0, 0, 0, 0, 0, 0);
        }
    }
}
