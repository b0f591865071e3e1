/** The edges of the term REFUSALS: a test for each of its sentences. */
final class RefusalEdgesTest {
    private static final Due DUE = new Due("RefusalEdgesTest");
    private static final int NO = ZInput.NO;
    private static final int BAD = ZInput.BAD;
    private static final int OUTSIDE = ZInput.OUTSIDE;
    private static final int FULL = -4;
    private static final int T = Setting.TEXT;
    private static final int P = Setting.PARSED;
    private static final int D = Setting.DICTIONARY;
    private static final int TABLE = Setting.TABLE;
    /** A TEXT, and a DICTIONARY, that go on behind MEMORY. */
    private static final int OPEN_TEXT = 3999;
    private static final int OPEN_DICTIONARY = 3950;

    private interface Call {
        int on(ZInput z);
    }

    public static void main(String[] args) {
        firstThatFits();
        changeNothing();
        changeNothingInARead();
        changeNothingWithoutARead();
        changeNothingOfAFullScript();
        parsedOutside();
        parsedOutsideByEveryKey();
        DUE.end();
    }

    private static void firstThatFits() {
        DUE.sentence("REFUSALS: the first that fits: NO (there is, or is not, a READ), BAD (a number is not as told), OUTSIDE.");
        ZInput z = settled(5);
        z.key(13);
        DUE.is("put, BAD and OUTSIDE", z.put(-1, 0, 0L), BAD);
        DUE.is("pack, BAD and OUTSIDE", z.pack(-1, 256, 4096), BAD);
        DUE.is("look, BAD n and OUTSIDE", z.look(4096, -1, OPEN_DICTIONARY), BAD);
        DUE.is("look, BAD d and OUTSIDE", z.look(4096, 1, 4001), BAD);
        DUE.is("parse, BAD t and OUTSIDE", z.parse(-1, P, OPEN_DICTIONARY, false), BAD);
        DUE.is("parse, BAD p and OUTSIDE", z.parse(OPEN_TEXT, 4001, OPEN_DICTIONARY, false), BAD);
        DUE.is("parse, BAD d and OUTSIDE", z.parse(OPEN_TEXT, P, -1, false), BAD);
        DUE.is("begin, BAD p and OUTSIDE", z.begin(OPEN_TEXT, 4001), BAD);
        DUE.is("begin, OUTSIDE", z.begin(OPEN_TEXT, 4000), OUTSIDE);
        z.put(4000, 1, 255L);
        DUE.is("begin, BAD CODES and OUTSIDE", z.begin(OPEN_TEXT, 0), BAD);
        DUE.is("key, NO and BAD", z.key(256), NO);
        DUE.is("timed, NO and BAD", z.timed(1001, 0), NO);
        DUE.is("tick, NO and BAD", z.tick(-1), NO);
        DUE.is("typed, NO and BAD", z.typed(-1), NO);
        DUE.is("play, NO with KEYS there", z.play(), NO);
        DUE.is("timed of V 3, NO and BAD", new ZInput(3).timed(1, 0), NO);
        z.put(4000, 1, 0L);
        Setting.again(z, 0);
        DUE.is("begin, NO and BAD t", z.begin(0, 0), NO);
        DUE.is("begin, NO and BAD p", z.begin(T, -1), NO);
        DUE.is("begin, NO and OUTSIDE", z.begin(OPEN_TEXT, 0), NO);
        DUE.is("begin, NO alone", z.begin(T, 0), NO);
        DUE.is("key, BAD", z.key(256), BAD);
        DUE.is("timed, BAD", z.timed(1001, 0), BAD);
        DUE.is("tick, BAD", z.tick(-1), BAD);
        DUE.is("typed, BAD", z.typed(-1), BAD);
        for (int i = z.told(3); i < 300; i++) {
            z.script('a');
        }
        DUE.is("script, BAD and full", z.script(256), BAD);
        DUE.is("script, full", z.script(255), FULL);
    }

    /** All kinds of things at once, and a READ that shows a LINE and has its clock on. */
    private static ZInput settled(int version) {
        ZInput z = new ZInput(version);
        Setting.dictionary(z, D, ",", 6, "go", "on");
        Due.lay(z, TABLE, 254, 0);
        z.tables(D, TABLE);
        z.put(OPEN_TEXT, 2, 200 * 256L);
        Due.lay(z, OPEN_DICTIONARY, 0, 6, 0, 99);
        z.put(T, 1, 20L);
        z.put(P, 1, 5L);
        z.begin(T, 0);
        Setting.lines(z, "on", "go, on");
        z.key(13);
        Due.lay(z, T + 1, 0);
        z.begin(T, P);
        Due.press(z, "\u0081\u0081x");
        z.script(' ');
        z.script(13);
        z.script('l');
        z.timed(10, 2);
        z.tick(15);
        return z;
    }

    private static ZInput settledWithoutARead() {
        ZInput z = settled(5);
        z.key(13);
        return z;
    }

    private static ZInput settledWithAFullScript() {
        ZInput z = settled(5);
        for (int i = z.told(3); i < 300; i++) {
            z.script(13);
        }
        return z;
    }

    private static void octets(StringBuilder seen, ZInput z, int from, int to) {
        for (int at = from; at < to; at++) {
            seen.append(z.at(at)).append(' ');
        }
    }

    /** All that the object shows. */
    private static void look(StringBuilder seen, ZInput z) {
        for (int what = 0; what < 8; what++) {
            seen.append(z.told(what)).append(' ');
        }
        for (int i = 0; i < 7; i++) {
            seen.append(z.typed(i)).append(' ').append(z.kept(0, i)).append(' ').append(z.kept(1, i)).append(' ');
        }
        for (int i = 0; i < z.told(5); i++) {
            seen.append(z.echo(i)).append(' ');
        }
        octets(seen, z, 0, 4);
        octets(seen, z, T, T + 10);
        octets(seen, z, P, P + 12);
        octets(seen, z, TABLE, TABLE + 3);
        octets(seen, z, D, D + 12);
        octets(seen, z, 3998, 4003);
        octets(seen, z, 4088, 4096);
    }

    /** All that the object shows, and what it does next: by the clock, or by KEYS. */
    private static String whole(ZInput z, boolean byClock) {
        StringBuilder seen = new StringBuilder();
        look(seen, z);
        seen.append(z.begin(T, P)).append(' ');
        if (byClock) {
            seen.append(z.tick(4)).append(' ').append(z.tick(1)).append(' ').append(z.told(6)).append(' ');
            seen.append(z.begin(T, 0)).append(' ').append(z.tick(10)).append(' ').append(z.key(254)).append(' ');
        } else {
            seen.append(z.key(130)).append(' ').append(z.told(1)).append(' ').append(z.key(129)).append(' ');
            seen.append(z.told(1)).append(' ').append(z.play()).append(' ').append(z.told(6)).append(' ');
        }
        look(seen, z);
        return seen.toString();
    }

    private static void refused(String name, ZInput z, ZInput twin, ZInput other, ZInput otherTwin, Call call, int want) {
        DUE.is(name, call.on(z), want);
        DUE.is(name + " left all as it was", whole(z, true).equals(whole(twin, true)) ? 1 : 0, 1);
        DUE.is(name, call.on(other), want);
        DUE.is(name + " left all as it was, by KEYS", whole(other, false).equals(whole(otherTwin, false)) ? 1 : 0, 1);
    }

    private static void inRead(String name, int want, Call call) {
        refused(name, settled(5), settled(5), settled(5), settled(5), call, want);
    }

    private static void withoutRead(String name, int want, Call call) {
        refused(name, settledWithoutARead(), settledWithoutARead(), settledWithoutARead(), settledWithoutARead(), call, want);
    }

    private static void changeNothing() {
        DUE.sentence("They change nothing;");
        inRead("put(8, 0, -1)", BAD, z -> z.put(8, 0, -1L));
        inRead("put(0, 9, -1)", BAD, z -> z.put(0, 9, -1L));
        inRead("put(4089, 8, -1)", OUTSIDE, z -> z.put(4089, 8, -1L));
        inRead("put(-1, 2, -1)", OUTSIDE, z -> z.put(-1, 2, -1L));
        inRead("at(4096)", OUTSIDE, z -> z.at(4096));
        inRead("pack(T, 256, 0)", BAD, z -> z.pack(T, 256, 0));
        inRead("pack(T, -1, 0)", BAD, z -> z.pack(T, -1, 0));
        inRead("pack(4095, 2, 0)", OUTSIDE, z -> z.pack(4095, 2, 0));
        inRead("pack(T, 2, 4091)", OUTSIDE, z -> z.pack(T, 2, 4091));
        inRead("pack(T, 2, -1)", OUTSIDE, z -> z.pack(T, 2, -1));
        inRead("tables(4001, 0)", BAD, z -> z.tables(4001, 0));
        inRead("tables(0, 4001)", BAD, z -> z.tables(0, 4001));
        inRead("tables(-1, 0)", BAD, z -> z.tables(-1, 0));
        inRead("tables(0, -1)", BAD, z -> z.tables(0, -1));
        inRead("look(T, 256, D)", BAD, z -> z.look(T, 256, D));
        inRead("look, OUTSIDE", OUTSIDE, z -> z.look(T, 1, OPEN_DICTIONARY));
        inRead("parse(T, P, 4001)", BAD, z -> z.parse(T, P, 4001, false));
        inRead("parse(T, 4001, D)", BAD, z -> z.parse(T, 4001, D, false));
        inRead("parse, the TEXT is OUTSIDE", OUTSIDE, z -> {
            z.put(OPEN_TEXT + 1, 1, 200L);
            int answer = z.parse(OPEN_TEXT, P, D, false);
            z.put(OPEN_TEXT + 1, 1, 0L);
            return answer;
        });
        inRead("parse, the DICTIONARY is OUTSIDE", OUTSIDE, z -> z.parse(T, P, OPEN_DICTIONARY, false));
        inRead("parse, the WORDS are OUTSIDE", OUTSIDE, z -> {
            z.put(4000, 1, 200L);
            z.put(T + 1, 1, 255L);
            for (int at = T + 2; at < T + 250; at += 8) {
                z.put(at, 8, 0x2078207820782078L);
            }
            int answer = z.parse(T, 4000, D, false);
            for (int at = T + 2; at < T + 250; at += 8) {
                z.put(at, 8, 0L);
            }
            Due.lay(z, T + 1, 0, 'g', 'o', ',', ' ', 'o', 'n');
            z.put(4000, 1, 0L);
            return answer;
        });
    }

    private static void changeNothingInARead() {
        DUE.sentence("NO (there is, or is not, a READ),");
        inRead("begin(T, 0)", NO, z -> z.begin(T, 0));
        inRead("begin(200, 300)", NO, z -> z.begin(200, 300));
        inRead("key(-1)", BAD, z -> z.key(-1));
        inRead("key(256)", BAD, z -> z.key(256));
        inRead("key(269)", BAD, z -> z.key(256 + 13));
        inRead("timed(-1, -1)", BAD, z -> z.timed(-1, -1));
        inRead("timed(1001, -1)", BAD, z -> z.timed(1001, -1));
        inRead("tick(-1)", BAD, z -> z.tick(-1));
        inRead("tick(100001)", BAD, z -> z.tick(100001));
        inRead("script(-1)", BAD, z -> z.script(-1));
        inRead("script(256)", BAD, z -> z.script(256));
        inRead("told(-1)", BAD, z -> z.told(-1));
        inRead("told(8)", BAD, z -> z.told(8));
        inRead("typed(3)", BAD, z -> z.typed(3));
        inRead("kept(2, 0)", BAD, z -> z.kept(2, 0));
        inRead("echo(99)", BAD, z -> z.echo(99));
        ZInput z = settled(3);
        DUE.is("timed(0, 0), version 3", z.timed(0, 0), BAD);
        DUE.is("the same", whole(z, false).equals(whole(settled(3), false)) ? 1 : 0, 1);
    }

    private static void changeNothingWithoutARead() {
        DUE.sentence("NO (there is, or is not, a READ), BAD (a number is not as told), OUTSIDE. They change nothing;");
        withoutRead("begin(0, 0)", BAD, z -> z.begin(0, 0));
        withoutRead("begin(4001, 0)", BAD, z -> z.begin(4001, 0));
        withoutRead("begin(200, -1)", BAD, z -> z.begin(200, -1));
        withoutRead("begin(200, 4001)", BAD, z -> z.begin(200, 4001));
        withoutRead("begin, OUTSIDE", OUTSIDE, z -> z.begin(OPEN_TEXT, 0));
        withoutRead("begin, too many CODES", BAD, z -> z.begin(T + 1, 0));
        withoutRead("key(13)", NO, z -> z.key(13));
        withoutRead("key('a')", NO, z -> z.key('a'));
        withoutRead("timed(5, 1)", NO, z -> z.timed(5, 1));
        withoutRead("tick(5)", NO, z -> z.tick(5));
        withoutRead("play()", NO, z -> z.play());
        withoutRead("typed(0)", NO, z -> z.typed(0));
    }

    private static void changeNothingOfAFullScript() {
        DUE.sentence("FULL is -4: there are 300.");
        refused("script(97)", settledWithAFullScript(), settledWithAFullScript(), settledWithAFullScript(),
                settledWithAFullScript(), z -> z.script(97), FULL);
    }

    private static void parsedOutside() {
        DUE.sentence("but a READ that ENDS by a KEY and would be PARSED OUTSIDE ends all the same, "
                + "is not PARSED, and answers OUTSIDE.");
        for (int version : new int[] {3, 5}) {
            ZInput z = new ZInput(version);
            Due.lay(z, OPEN_DICTIONARY, 0, 6, 0, 99);
            z.tables(OPEN_DICTIONARY, 0);
            z.put(T, 1, 20L);
            Due.lay(z, P, 9, 77, 7, 7, 7, 7);
            z.begin(T, P);
            Due.press(z, "go");
            DUE.is("key(13)", z.key(13), OUTSIDE);
            DUE.is("told(0)", z.told(0), 0);
            DUE.is("told(6)", z.told(6), 13);
            DUE.kept(z, 0, "go");
            DUE.is("told(5)", z.told(5), 3);
            DUE.is("echo(2)", z.echo(2), 13);
            DUE.octets(z, P, 9, 77, 7, 7, 7, 7);
            if (version == 3) {
                DUE.octets(z, T, 20, 'g', 'o', 0);
            } else {
                DUE.octets(z, T, 20, 2, 'g', 'o', 0);
            }
            // With no CODES, too: the DICTIONARY is needed, whatever is looked for.
            Setting.again(z, P);
            DUE.is("key(13), no CODES", z.key(13), OUTSIDE);
            DUE.is("told(4)", z.told(4), 1);
            DUE.is("told(5)", z.told(5), 4);
            // The WORDS that are told are behind MEMORY.
            z.tables(200, 0);
            z.put(T, 1, 60L);
            z.put(4000, 2, 24 * 256L + 77);
            Setting.again(z, 4000);
            for (int i = 0; i < 24; i++) {
                Due.press(z, "a ");
            }
            DUE.is("key(13), 24 WORDS from 4000 on", z.key(13), OUTSIDE);
            DUE.octets(z, 4000, 24, 77, 0);
            z.put(4000, 1, 23L);
            Setting.again(z, 4000);
            z.key(129);
            DUE.is("key(13), 23 are told", z.key(13), 1);
            DUE.octets(z, 4000, 23, 23);
        }
    }

    private static void parsedOutsideByEveryKey() {
        DUE.sentence("a READ that ENDS by a KEY and would be PARSED OUTSIDE");
        for (int code : new int[] {13, 129, 154, 252, 254}) {
            ZInput z = new ZInput(5);
            Due.lay(z, OPEN_DICTIONARY, 0, 6, 0, 99);
            z.put(TABLE, 1, 255L);
            z.tables(OPEN_DICTIONARY, TABLE);
            z.put(T, 1, 20L);
            z.begin(T, P);
            DUE.is("key(" + code + ")", z.key(code), OUTSIDE);
            DUE.is("told(6)", z.told(6), code);
        }
        // The TEXT itself is never OUTSIDE, as octets behind MEMORY's end are no room; its end is its last octet.
        for (int version : new int[] {4, 5}) {
            ZInput z = new ZInput(version);
            z.put(4000, 1, version == 4 ? 95L : 94L);
            z.put(P, 1, 9L);
            DUE.is("begin(4000, P)", z.begin(4000, P), 94);
            for (int i = 0; i < 94; i++) {
                z.key('x');
            }
            DUE.is("key(13)", z.key(13), 1);
            DUE.octets(z, P, 9, 1, 0, 0, 94, version == 4 ? 1 : 2);
        }
    }
}
