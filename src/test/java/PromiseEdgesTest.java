/** The edges that the promises 1 to 17 name in their own sentences: a test for each. */
final class PromiseEdgesTest {
    private static final Due DUE = new Due("PromiseEdgesTest");
    private static final int NO = ZInput.NO;
    private static final int BAD = ZInput.BAD;
    private static final int OUTSIDE = ZInput.OUTSIDE;
    private static final int FULL = -4;
    private static final int T = Setting.TEXT;
    private static final int P = Setting.PARSED;
    private static final int D = Setting.DICTIONARY;
    private static final int LEAST = Integer.MIN_VALUE;
    private static final int MOST = Integer.MAX_VALUE;

    public static void main(String[] args) {
        versions();
        newObject();
        memory();
        codes();
        put();
        putRefused();
        at();
        pack();
        tables();
        look();
        parse();
        parseRefused();
        begin();
        beginBad();
        beginTooManyCodes();
        beginOutside();
        key();
        keyRefused();
        timed();
        timedRefused();
        tick();
        tickTillItEnds();
        script();
        scriptFull();
        play();
        playTillItEnds();
        told();
        toldWithoutARead();
        typed();
        kept();
        echo();
        echoLatest();
        DUE.end();
    }

    private static void versions() {
        DUE.sentence("V is 5, if the version is not 1 .. 8.");
        for (int version : new int[] {LEAST, -5, -1, 0, 9, 10, 256, 257, MOST}) {
            ZInput z = new ZInput(version);
            Due.lay(z, T, 9, 2, 'h', 'i');
            z.put(Setting.TABLE, 1, 140L);
            z.tables(0, Setting.TABLE);
            DUE.is("pack, version " + version, z.pack(0, 0, 3000), 6);
            DUE.is("begin, version " + version, z.begin(T, 0), 9);
            DUE.typed(z, "hi");
            DUE.is("timed(1, 0)", z.timed(1, 0), 0);
            DUE.is("key(140)", z.key(140), 1);
        }
        // What tells each version from 5.
        for (int version = 1; version <= 8; version++) {
            ZInput z = new ZInput(version);
            Due.lay(z, T, 9, 2, 'h', 'i');
            Due.lay(z, 200, 'A', '\r');
            DUE.is("begin, version " + version, z.begin(T, 0), version <= 4 ? 8 : 9);
            DUE.is("timed(1, 0), version " + version, z.timed(1, 0), version <= 3 ? BAD : 0);
            z.pack(200, 2, 300);
            int aside = version <= 2 ? 3 : 5;
            int letter = version == 1 ? 6 : 7;
            DUE.octets(z, 300, (version <= 2 ? 2 : 4) * 4, 6 * 32 + aside, (letter << 2) % 256 + (version <= 3 ? 128 : 0));
        }
    }

    private static void newObject() {
        DUE.sentence("MEMORY is 0s, there is no READ, no LINE, no script; THE DICTIONARY is at 0, THE TABLE at 0; ENDED is NO.");
        for (int version = 1; version <= 8; version++) {
            ZInput z = new ZInput(version);
            int[] want = {0, 0, 0, 0, 0, 0, NO, 0};
            for (int what = 0; what < 8; what++) {
                DUE.is("told(" + what + ")", z.told(what), want[what]);
            }
            DUE.is("typed(0)", z.typed(0), NO);
            DUE.is("kept(0, 0)", z.kept(0, 0), BAD);
            DUE.is("echo(0)", z.echo(0), BAD);
            DUE.is("play()", z.play(), NO);
            for (int at = version; at < 4096; at += 16) {
                DUE.is("at(" + at + ")", z.at(at), 0);
            }
            Setting.dictionary(z, 0, "", 6, "a");
            z.put(T, 1, 9L);
            z.put(P, 1, 9L);
            z.begin(T, P);
            z.key('a');
            z.key(13);
            DUE.octets(z, P, 9, 1, 0, 4);
            z.put(0, 8, -1L);
            Setting.again(z, 0);
            DUE.is("key(254), no TABLE", z.key(254), 0);
        }
    }

    private static void memory() {
        DUE.sentence("MEMORY has 4096 octets, 0 at first;");
        for (int part = 0; part < 9; part++) {
            ZInput z = new ZInput(5);
            for (int at = part * 500; at < Math.min(4096, part * 500 + 500); at++) {
                DUE.is("at(" + at + ")", z.at(at), 0);
            }
        }
        ZInput z = new ZInput(5);
        DUE.is("put, the first", z.put(0, 1, 1L), 1);
        DUE.is("put, the last", z.put(4095, 1, 2L), 4096);
        DUE.is("put, behind it", z.put(4096, 1, 3L), OUTSIDE);
        DUE.is("at(0)", z.at(0), 1);
        DUE.is("at(4095)", z.at(4095), 2);
        DUE.is("at(4096)", z.at(4096), OUTSIDE);
    }

    private static void codes() {
        DUE.sentence("CODES are 0 .. 255.");
        ZInput z = new ZInput(5);
        Due.lay(z, T, 9, 2, 0, 255);
        z.begin(T, 0);
        DUE.typed(z, "\0\u00ff");
        for (int code : new int[] {0, 255}) {
            DUE.is("key(" + code + ")", z.key(code), 0);
            DUE.is("script(" + code + ")", z.script(code), code == 0 ? 1 : 2);
        }
        for (int code : new int[] {LEAST, -256, -1, 256, 512, MOST}) {
            DUE.is("key(" + code + ")", z.key(code), BAD);
            DUE.is("script(" + code + ")", z.script(code), BAD);
        }
        z.key(13);
        DUE.kept(z, 0, "\0\u00ff");
        DUE.is("echo(0)", z.echo(0), 0);
        DUE.is("echo(1)", z.echo(1), 255);
        DUE.octets(z, T, 9, 2, 0, 255);
    }

    private static void put() {
        DUE.sentence("The n (1 .. 8) lowest octets of v, the highest of these first, are those from an address on: the address behind.");
        for (int n = 1; n <= 8; n++) {
            ZInput z = new ZInput(5);
            DUE.is("put(10, " + n + ", ..)", z.put(10, n, 0x8182838485868788L), 10 + n);
            DUE.octets(z, 9, 0);
            for (int i = 0; i < n; i++) {
                DUE.octets(z, 10 + i, 0x89 - n + i);
            }
            DUE.octets(z, 10 + n, 0);
            DUE.is("put(10, " + n + ", -1)", z.put(10, n, -1L), 10 + n);
            DUE.octets(z, 9, 0, 255);
            DUE.octets(z, 9 + n, 255, 0);
        }
        ZInput z = new ZInput(5);
        z.put(0, 8, Long.MIN_VALUE);
        DUE.octets(z, 0, 128, 0, 0, 0, 0, 0, 0, 0);
        z.put(0, 8, Long.MAX_VALUE);
        DUE.octets(z, 0, 127, 255, 255, 255, 255, 255, 255, 255);
        z.put(0, 1, 256L);
        DUE.octets(z, 0, 0, 255);
        z.put(0, 2, -32768L);
        DUE.octets(z, 0, 128, 0, 255);
    }

    private static void putRefused() {
        DUE.sentence("the address behind. BAD, OUTSIDE.");
        ZInput z = new ZInput(5);
        for (int n : new int[] {LEAST, -1, 0, 9, 10, MOST}) {
            DUE.is("put(0, " + n + ", -1)", z.put(0, n, -1L), BAD);
        }
        for (int at : new int[] {LEAST, -8, -1, 4089, 4096, MOST - 7, MOST}) {
            DUE.is("put(" + at + ", 8, -1)", z.put(at, 8, -1L), OUTSIDE);
        }
        DUE.octets(z, 0, 0, 0, 0, 0, 0, 0, 0, 0);
        DUE.octets(z, 4088, 0, 0, 0, 0, 0, 0, 0, 0);
        DUE.is("put(4088, 8, -1)", z.put(4088, 8, -1L), 4096);
    }

    private static void at() {
        DUE.sentence("`int at(int address)`: MEMORY's octet. OUTSIDE.");
        ZInput z = new ZInput(5);
        z.put(0, 2, 0x807fL);
        z.put(4095, 1, 255L);
        DUE.octets(z, 0, 128, 127);
        DUE.octets(z, 4094, 0, 255);
        for (int address : new int[] {LEAST, -4096, -1, 4096, 4097, 8192, MOST}) {
            DUE.is("at(" + address + ")", z.at(address), OUTSIDE);
        }
    }

    private static void pack() {
        DUE.sentence("n CODES (0 .. 255) from an address on, PACKED, come to another address on: how many octets. BAD: n; OUTSIDE.");
        for (int version : new int[] {1, 3, 4, 8}) {
            ZInput z = new ZInput(version);
            int octets = version <= 3 ? 4 : 6;
            for (int n : new int[] {0, 1, 254, 255}) {
                DUE.is("pack(0, " + n + ", 500)", z.pack(0, n, 500), octets);
            }
            for (int n : new int[] {LEAST, -1, 256, MOST}) {
                DUE.is("pack(0, " + n + ", 500)", z.pack(0, n, 500), BAD);
            }
            for (int from : new int[] {LEAST, -1, 4095, 4096, MOST}) {
                DUE.is("pack(" + from + ", 2, 500)", z.pack(from, 2, 500), OUTSIDE);
            }
            DUE.is("pack(4094, 2, 500)", z.pack(4094, 2, 500), octets);
            for (int to : new int[] {LEAST, -1, 4097 - octets, 4095, 4096, MOST - 3, MOST}) {
                DUE.is("pack(0, 2, " + to + ")", z.pack(0, 2, to), OUTSIDE);
            }
            DUE.is("pack(0, 2, .. the end)", z.pack(0, 2, 4096 - octets), octets);
            // Onto its own CODES.
            Due.lay(z, 300, "abcdefghi");
            z.pack(300, 9, 400);
            z.pack(300, 9, 303);
            for (int i = 0; i < octets; i++) {
                DUE.octets(z, 303 + i, z.at(400 + i));
            }
        }
    }

    private static void tables() {
        DUE.sentence("THE DICTIONARY, THE TABLE are at these addresses (0 .. 4000): 1. BAD.");
        for (int wrong : new int[] {LEAST, -1, 4001, 4096, MOST}) {
            ZInput z = new ZInput(5);
            DUE.is("tables(" + wrong + ", 0)", z.tables(wrong, 0), BAD);
            DUE.is("tables(0, " + wrong + ")", z.tables(0, wrong), BAD);
        }
        for (int there : new int[] {0, 1, 3999, 4000}) {
            ZInput z = new ZInput(5);
            DUE.is("tables(" + there + ", 0)", z.tables(there, 0), 1);
            Setting.dictionary(z, there, "", 6, "a");
            z.put(T, 1, 9L);
            z.put(P, 1, 9L);
            z.begin(T, P);
            z.key('a');
            z.key(13);
            DUE.octets(z, P, 9, 1, (there + 4) / 256, (there + 4) % 256, 1, 2);
            DUE.is("tables(2000, " + there + ")", z.tables(2000, there), 1);
            z.put(there, 2, 254 * 256L);
            Setting.again(z, 0);
            DUE.is("key(254), THE TABLE at " + there, z.key(254), there == 0 ? 0 : 1);
        }
    }

    private static void look() {
        DUE.sentence("The ENTRY's address of n CODES (0 .. 255) from an address on, as one WORD, "
                + "in the DICTIONARY at d; 0: none. BAD: n, d is not 0 .. 4000; OUTSIDE.");
        ZInput z = new ZInput(5);
        Setting.dictionary(z, D, ", ", 6, "", "a, b", "zzzzzzzzz");
        Due.lay(z, 300, "a, bz");
        DUE.is("look, no CODES", z.look(300, 0, D), D + 6);
        DUE.is("look, as one WORD, whatever it has", z.look(300, 4, D), D + 12);
        DUE.is("look, none", z.look(300, 3, D), 0);
        Due.lay(z, 3841, "z".repeat(255));
        DUE.is("look, 255", z.look(3841, 255, D), D + 18);
        DUE.is("look, 255, the last is behind MEMORY", z.look(3842, 255, D), OUTSIDE);
        for (int n : new int[] {LEAST, -1, 256, MOST}) {
            DUE.is("look(300, " + n + ", D)", z.look(300, n, D), BAD);
        }
        for (int d : new int[] {LEAST, -1, 4001, 4096, MOST}) {
            DUE.is("look(300, 1, " + d + ")", z.look(300, 1, d), BAD);
        }
        for (int from : new int[] {LEAST, -1, 4096, MOST}) {
            DUE.is("look(" + from + ", 1, D)", z.look(from, 1, D), OUTSIDE);
        }
        z = new ZInput(5);
        z.put(300, 1, 'a');
        DUE.is("look in the DICTIONARY at 0", z.look(300, 1, 0), 0);
        Setting.dictionary(z, 0, "", 6, "a");
        DUE.is("look in the DICTIONARY at 0, found", z.look(300, 1, 0), 4);
        DUE.is("look in the DICTIONARY at 4000", z.look(300, 1, 4000), 0);
        Setting.dictionary(z, 4000, "", 6, "a");
        DUE.is("look in the DICTIONARY at 4000, found", z.look(300, 1, 4000), 4004);
    }

    private static void parse() {
        DUE.sentence("A TEXT is PARSED: how many WORDS it has, all of them.");
        for (int version : new int[] {4, 5}) {
            ZInput z = new ZInput(version);
            Setting.text(z, version, 2000, "");
            DUE.is("parse, none", z.parse(2000, P, D, false), 0);
            Setting.text(z, version, 2000, "a b c");
            for (int most = 0; most <= 4; most++) {
                z.put(P, 1, most);
                DUE.is("parse, " + most + " may be told", z.parse(2000, P, D, most % 2 == 0), 3);
            }
            Setting.text(z, version, 2000, ",".repeat(255));
            Setting.dictionary(z, D, ",", 6);
            z.put(P, 1, 2L);
            DUE.is("parse, 255", z.parse(2000, P, D, false), 255);
        }
        ZInput z = new ZInput(4);
        Setting.dictionary(z, D, ",", 6);
        Setting.text(z, 4, 2000, ",".repeat(900));
        DUE.is("parse, 900", z.parse(2000, P, D, false), 900);
    }

    private static void parseRefused() {
        DUE.sentence("BAD: an address is not 0 .. 4000; OUTSIDE.");
        for (int version : new int[] {4, 5}) {
            ZInput z = new ZInput(version);
            for (int wrong : new int[] {LEAST, -1, 4001, 4096, MOST}) {
                DUE.is("parse(" + wrong + ", P, D)", z.parse(wrong, P, D, false), BAD);
                DUE.is("parse(T, " + wrong + ", D)", z.parse(T, wrong, D, false), BAD);
                DUE.is("parse(T, P, " + wrong + ")", z.parse(T, P, wrong, true), BAD);
            }
            DUE.is("parse(0, 0, 0)", z.parse(0, 0, 0, false), 0);
            DUE.is("parse(4000, 4000, 4000)", z.parse(4000, 4000, 4000, false), 0);
            // p 0 is an address as any other.
            Setting.text(z, version, T, "x");
            z.put(0, 2, 0x014dL);
            DUE.is("parse(T, 0, D)", z.parse(T, 0, D, false), 1);
            DUE.octets(z, 0, 1, 1, 0, 0, 1, version == 4 ? 1 : 2);
        }
    }

    private static void begin() {
        DUE.sentence("A READ begins: how many CODES there may be. NO: there is one;");
        for (int version : new int[] {4, 5}) {
            ZInput z = new ZInput(version);
            z.put(T, 1, 9L);
            int most = version == 4 ? 8 : 9;
            DUE.is("begin", z.begin(T, 0), most);
            DUE.is("told(0)", z.told(0), 1);
            DUE.is("begin in it", z.begin(T, 0), NO);
            DUE.is("begin in it, elsewhere", z.begin(500, 0), NO);
            z.key(13);
            DUE.is("begin behind a KEY that ENDED it", z.begin(T, 0), most);
            z.timed(1, 1);
            z.tick(1);
            DUE.is("begin behind the clock's end", z.begin(T, 0), most);
        }
    }

    private static void beginBad() {
        DUE.sentence("BAD: t is not 1 .. 4000, p not 0 .. 4000,");
        for (int version : new int[] {4, 5}) {
            for (int wrong : new int[] {LEAST, -1, 4001, 4096, MOST}) {
                ZInput z = new ZInput(version);
                DUE.is("begin(" + wrong + ", 0)", z.begin(wrong, 0), BAD);
                DUE.is("begin(T, " + wrong + ")", z.begin(T, wrong), BAD);
                DUE.is("begin(0, 0)", z.begin(0, 0), BAD);
                DUE.is("told(0)", z.told(0), 0);
            }
            for (int right : new int[] {1, 2, 3999, 4000}) {
                DUE.is("begin(" + right + ", 0)", new ZInput(version).begin(right, 0), 0);
                DUE.is("begin(T, " + right + ")", new ZInput(version).begin(T, right), 0);
            }
            DUE.is("begin(1, 4000)", new ZInput(version).begin(1, 4000), 0);
        }
    }

    private static void beginTooManyCodes() {
        DUE.sentence("from V 5 on there are more CODES at first than may be;");
        for (int version = 1; version <= 8; version++) {
            for (int n : new int[] {0, 1, 9, 127, 128, 254}) {
                ZInput z = new ZInput(version);
                z.put(T, 2, n * 256 + n + 1);
                DUE.is("begin, one too many for " + n, z.begin(T, 0), version >= 5 ? BAD : Math.max(0, n - 1));
                z = new ZInput(version);
                z.put(T, 2, n * 256 + 255);
                DUE.is("begin, 255 for " + n, z.begin(T, 0), version >= 5 ? BAD : Math.max(0, n - 1));
                z = new ZInput(version);
                z.put(T, 2, n * 256 + n);
                DUE.is("begin, as many as may be", z.begin(T, 0), version >= 5 ? n : Math.max(0, n - 1));
            }
        }
    }

    private static void beginOutside() {
        DUE.sentence("OUTSIDE: octets that may be laid down.");
        for (int version = 1; version <= 8; version++) {
            for (int t : new int[] {3860, 3990, 3999, 4000}) {
                // The last octet that may be laid down is MEMORY's last one: the ending 0, or a CODE.
                int n = version <= 4 ? 4095 - t : 4094 - t;
                ZInput z = new ZInput(version);
                z.put(t, 1, n + 1);
                DUE.is("begin(" + t + ", 0), n " + (n + 1), z.begin(t, 0), OUTSIDE);
                DUE.is("told(0)", z.told(0), 0);
                z.put(t, 1, 255L);
                DUE.is("begin(" + t + ", 0), n 255", z.begin(t, 0), OUTSIDE);
                z.put(t, 1, n);
                DUE.is("begin(" + t + ", 0), n " + n, z.begin(t, 0), version <= 4 ? n - 1 : n);
            }
            // What is told of its WORDS does not count here, though it might be OUTSIDE.
            ZInput z = new ZInput(version);
            z.put(4000, 1, 255L);
            DUE.is("begin(T, 4000)", z.begin(T, 4000), 0);
        }
    }

    private static void key() {
        DUE.sentence("A KEY: 1 the READ ENDED, 0 it goes on. NO;");
        ZInput z = new ZInput(5);
        DUE.is("key(13), no READ yet", z.key(13), NO);
        z.put(T, 1, 9L);
        z.begin(T, 0);
        DUE.is("key(0)", z.key(0), 0);
        DUE.is("key(97)", z.key(97), 0);
        DUE.is("key(255)", z.key(255), 0);
        DUE.is("key(13)", z.key(13), 1);
        DUE.is("key(13), no READ any more", z.key(13), NO);
        DUE.is("key(97), no READ any more", z.key(97), NO);
    }

    private static void keyRefused() {
        DUE.sentence("BAD: no CODE; OUTSIDE as told above.");
        ZInput z = Setting.reading(5, 9);
        for (int code : new int[] {LEAST, -1, 256, 256 + 13, 256 + 97, MOST}) {
            DUE.is("key(" + code + ")", z.key(code), BAD);
        }
        DUE.is("told(0)", z.told(0), 1);
        DUE.is("told(1)", z.told(1), 0);
        z.key(13);
        Due.lay(z, 3990, 0, 6, 0, 99);
        z.tables(3990, 0);
        Setting.again(z, P);
        DUE.is("key(97), the READ goes on", z.key(97), 0);
        DUE.is("key(13), PARSED OUTSIDE", z.key(13), OUTSIDE);
    }

    private static void timed() {
        DUE.sentence("Calls come each time that so many TICKS (1 .. 1000; 0: none come) went by from now on, "
                + "with these answers: how many had come in this READ.");
        ZInput z = Setting.reading(4, 9);
        DUE.is("timed(1, 0)", z.timed(1, 0), 0);
        DUE.is("tick(3)", z.tick(3), 3);
        DUE.is("timed(1000, 0)", z.timed(1000, 0), 3);
        DUE.is("tick(999)", z.tick(999), 0);
        DUE.is("tick(1)", z.tick(1), 1);
        DUE.is("timed(0, -1)", z.timed(0, -1), 4);
        DUE.is("tick(100000)", z.tick(100000), 0);
        DUE.is("timed(2, LEAST)", z.timed(2, LEAST), 4);
        DUE.is("tick(62)", z.tick(62), 31);
        DUE.is("tick(100)", z.tick(100), 1);
        DUE.is("told(0)", z.told(0), 0);
        Setting.again(z, 0);
        DUE.is("timed(1, 0), the next READ", z.timed(1, 0), 0);
    }

    private static void timedRefused() {
        DUE.sentence("NO; BAD: also before V 4.");
        for (int version = 1; version <= 8; version++) {
            DUE.is("timed(1, 0), no READ", new ZInput(version).timed(1, 0), NO);
            ZInput z = Setting.reading(version, 9);
            for (int every : new int[] {LEAST, -1, 1001, MOST}) {
                DUE.is("timed(" + every + ", 0)", z.timed(every, 0), BAD);
            }
            for (int every : new int[] {0, 1, 1000}) {
                DUE.is("timed(" + every + ", 0), version " + version, z.timed(every, 0), version <= 3 ? BAD : 0);
            }
        }
    }

    private static void tick() {
        DUE.sentence("So many TICKS (0 .. 100000) go by,");
        for (int version = 1; version <= 8; version++) {
            DUE.is("tick(0), no READ", new ZInput(version).tick(0), NO);
            ZInput z = Setting.reading(version, 9);
            for (int ticks : new int[] {LEAST, -1, 100001, MOST}) {
                DUE.is("tick(" + ticks + ")", z.tick(ticks), BAD);
            }
            DUE.is("tick(0)", z.tick(0), 0);
            DUE.is("tick(100000)", z.tick(100000), 0);
        }
        ZInput z = Setting.reading(5, 9);
        z.timed(1, 0);
        DUE.is("tick(0)", z.tick(0), 0);
        DUE.is("tick(1)", z.tick(1), 1);
        DUE.is("tick(99999)", z.tick(99999), 99999);
        DUE.is("tick(100000)", z.tick(100000), 100000);
        DUE.is("told(7)", z.told(7), 200000);
        z.timed(1000, 0);
        DUE.is("tick(99999), every 1000", z.tick(99999), 99);
        DUE.is("tick(100000), every 1000", z.tick(100000), 100);
        DUE.is("tick(1), every 1000", z.tick(1), 1);
    }

    private static void tickTillItEnds() {
        DUE.sentence("till the READ ENDS: how many calls came. NO; BAD.");
        for (int bit : new int[] {0, 1, 30, 31}) {
            ZInput z = Setting.reading(5, 9);
            z.timed(3, 1 << bit);
            DUE.is("tick(100000)", z.tick(100000), bit + 1);
            DUE.is("tick(100000), no READ any more", z.tick(100000), NO);
            DUE.is("told(7)", z.told(7), 0);
            // The TICKS that were left over are of no READ.
            Setting.again(z, 0);
            z.timed(3, 0);
            DUE.is("tick(2), the next READ", z.tick(2), 0);
        }
    }

    private static void script() {
        DUE.sentence("A KEY more in the script: how many there are. BAD: no CODE;");
        ZInput z = new ZInput(5);
        DUE.is("script(0)", z.script(0), 1);
        DUE.is("script(255)", z.script(255), 2);
        for (int code : new int[] {LEAST, -1, 256, MOST}) {
            DUE.is("script(" + code + ")", z.script(code), BAD);
        }
        DUE.is("told(3)", z.told(3), 2);
        DUE.is("script(13)", z.script(13), 3);
    }

    private static void scriptFull() {
        DUE.sentence("FULL is -4: there are 300.");
        ZInput z = new ZInput(5);
        for (int i = 1; i <= 300; i++) {
            DUE.is("script, number " + i, z.script(i == 2 || i == 300 ? 13 : 'a' + i % 26), i);
        }
        DUE.is("script, one more", z.script('!'), FULL);
        DUE.is("script, one more again", z.script(13), FULL);
        DUE.is("told(3)", z.told(3), 300);
        z.put(T, 1, 255L);
        z.begin(T, 0);
        DUE.is("play()", z.play(), 2);
        // Two are gone: there is room for two, behind all others.
        DUE.is("script, room again", z.script('#'), 299);
        DUE.is("script, room again", z.script('$'), 300);
        DUE.is("script, full again", z.script('%'), FULL);
        Setting.again(z, 0);
        DUE.is("play(), up to the 13 that was the 300th", z.play(), 298);
        DUE.is("told(3)", z.told(3), 2);
        DUE.is("kept(0, 0), the third one", z.kept(0, 0), 'a' + 3);
        Setting.again(z, 0);
        DUE.is("play(), the rest", z.play(), 2);
        DUE.typed(z, "#$");
        DUE.is("script, into an empty one", z.script('a'), 1);
    }

    private static void play() {
        DUE.sentence("KEYS come from the script, the first one first,");
        ZInput z = Setting.reading(5, 9);
        DUE.is("play(), none there", z.play(), 0);
        DUE.is("told(0)", z.told(0), 1);
        z.script('a');
        DUE.is("play(), one", z.play(), 1);
        DUE.is("play(), it is gone", z.play(), 0);
        z.script('B');
        z.script(8);
        z.script('c');
        z.script(200);
        z.script(1);
        DUE.is("play(), five", z.play(), 5);
        DUE.typed(z, "ac\u00c8");
        DUE.is("told(3)", z.told(3), 0);
    }

    private static void playTillItEnds() {
        DUE.sentence("till the READ ENDS, or there are none: how many came. NO.");
        ZInput z = new ZInput(5);
        z.script(13);
        DUE.is("play(), no READ", z.play(), NO);
        DUE.is("told(3)", z.told(3), 1);
        z.script('a');
        z.script(13);
        z.script(13);
        z.script('b');
        z.put(T, 1, 9L);
        for (int want : new int[] {1, 2, 1}) {
            Setting.again(z, 0);
            DUE.is("play()", z.play(), want);
            DUE.is("told(0)", z.told(0), 0);
            DUE.is("play(), it ENDED", z.play(), NO);
        }
        Setting.again(z, 0);
        DUE.is("play(), the last", z.play(), 1);
        DUE.is("told(0)", z.told(0), 1);
        DUE.typed(z, "b");
    }

    private static void told() {
        DUE.sentence("0 whether there is a READ, 1 how many CODES it has, 2 how many there may be, 3 KEYS in the script, "
                + "4 LINES that are kept, 5 how many CODES came to THE ECHO, 6 ENDED by the latest READ that ENDED, "
                + "7 calls in this READ");
        ZInput z = new ZInput(5);
        for (int what : new int[] {LEAST, -1, 8, 9, MOST}) {
            DUE.is("told(" + what + ")", z.told(what), BAD);
        }
        z.put(T, 1, 9L);
        z.script('k');
        z.script('k');
        z.begin(T, 0);
        Due.press(z, "abc");
        z.timed(1, 0);
        z.tick(5);
        tells(z, 1, 3, 9, 2, 0, 0, NO, 5);
        z.key(13);
        tells(z, 0, 0, 0, 2, 1, 4, 13, 0);
        z.begin(T, 0);
        tells(z, 1, 3, 9, 2, 1, 4, 13, 0);
    }

    private static void tells(ZInput z, int... want) {
        for (int what = 0; what < 8; what++) {
            DUE.is("told(" + what + ")", z.told(what), want[what]);
        }
    }

    private static void toldWithoutARead() {
        DUE.sentence("(1, 2, 7 without one 0). BAD.");
        for (boolean byClock : new boolean[] {false, true}) {
            ZInput z = Setting.reading(5, 9);
            Due.press(z, "abc");
            z.timed(1, 4);
            DUE.is("tick(2)", z.tick(2), 2);
            if (byClock) {
                z.tick(1);
            } else {
                z.key(13);
            }
            for (int what : new int[] {0, 1, 2, 7}) {
                DUE.is("told(" + what + ")", z.told(what), 0);
            }
            DUE.is("told(6)", z.told(6), byClock ? 0 : 13);
        }
    }

    private static void typed() {
        DUE.sentence("CODE i of the READ. NO; BAD: it has not so many.");
        ZInput z = new ZInput(5);
        DUE.is("typed(0), no READ", z.typed(0), NO);
        z.put(T, 1, 9L);
        z.begin(T, 0);
        DUE.is("typed(0), no CODES", z.typed(0), BAD);
        Due.press(z, "xyz\b");
        DUE.is("typed(0)", z.typed(0), 'x');
        DUE.is("typed(1)", z.typed(1), 'y');
        for (int i : new int[] {LEAST, -1, 2, 3, 9, 255, 256, MOST}) {
            DUE.is("typed(" + i + ")", z.typed(i), BAD);
        }
        z.key(13);
        DUE.is("typed(0), no READ any more", z.typed(0), NO);
    }

    private static void kept() {
        DUE.sentence("CODE i of LINE k of those that are kept, the latest being 0; BAD: none such.");
        ZInput z = Setting.reading(5, 9);
        DUE.is("kept(0, 0), none", z.kept(0, 0), BAD);
        Setting.lines(z, "ab", "cde");
        DUE.kept(z, 0, "cde");
        DUE.kept(z, 1, "ab");
        for (int wrong : new int[] {LEAST, -1, 3, 8, 255, MOST}) {
            DUE.is("kept(" + wrong + ", 0)", z.kept(wrong, 0), BAD);
            DUE.is("kept(0, " + wrong + ")", z.kept(0, wrong), BAD);
        }
        DUE.is("kept(2, 0)", z.kept(2, 0), BAD);
        // Of a LINE that took the place of a longer one there is no more than its own.
        Setting.lines(z, "f", "g", "h", "i", "j", "k", "l", "m");
        for (int k = 0; k < 8; k++) {
            DUE.kept(z, k, String.valueOf((char) ('m' - k)));
        }
        DUE.is("kept(8, 0)", z.kept(8, 0), BAD);
    }

    private static void echo() {
        DUE.sentence("CODE i of THE ECHO,");
        ZInput z = Setting.reading(5, 9);
        DUE.is("echo(0), none came", z.echo(0), BAD);
        Setting.lines(z, "ab", "");
        int[] want = {'a', 'b', 13, 13};
        for (int i = 0; i < 4; i++) {
            DUE.is("echo(" + i + ")", z.echo(i), want[i]);
        }
        for (int i : new int[] {LEAST, -2000, -1, 4, 5, 2000, 2001, MOST}) {
            DUE.is("echo(" + i + ")", z.echo(i), BAD);
        }
    }

    private static void echoLatest() {
        DUE.sentence("of which the latest 2000 are kept, i counted from the first one that ever came; BAD: none such.");
        // 250 CODES and 13, again and again; then one 13 after the other, over 2000 and over 4000.
        ZInput z = new ZInput(5);
        Due.lay(z, T, 255);
        int total = 0;
        for (int read = 0; read < 40; read++) {
            boolean whole = read < 7 || read > 20 && read < 30;
            z.put(T + 1, 2, (whole ? 250 : read % 3) * 256 + 'A' + read);
            z.begin(T, 0);
            z.key(13);
            total += whole ? 251 : read % 3 + 1;
            DUE.is("told(5)", z.told(5), total);
            DUE.is("echo, the latest", z.echo(total - 1), 13);
            DUE.is("echo, behind it", z.echo(total), BAD);
            DUE.is("echo, the 2000th", z.echo(total - 2000) == BAD ? 0 : 1, total >= 2000 ? 1 : 0);
            DUE.is("echo, the one before", z.echo(total - 2001), BAD);
            DUE.is("echo, the first of all", z.echo(0), total > 2000 ? BAD : 'A');
            if (whole) {
                DUE.is("echo, the READ's first", z.echo(total - 251), 'A' + read);
            }
        }
        DUE.is("more than twice 2000 came", total > 4000 ? 1 : 0, 1);
    }
}
