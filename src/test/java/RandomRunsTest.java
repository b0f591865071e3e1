import java.util.Random;

/** Runs of 512 calls, the same ones each time, on the class and on a plain model of the document. */
final class RandomRunsTest {
    private static final int RUNS = 3000;
    private static final int CALLS = 512;
    private static final int[] EDGES = {-1, 0, 1, 2, 7, 8, 9, 255, 256, 999, 1000, 1001, 3999, 4000, 4001, 4090,
        4092, 4095, 4096, 100000, 100001, Integer.MIN_VALUE, Integer.MAX_VALUE, Integer.MAX_VALUE - 7};
    private static final String LETTERS = "aabbcABZ  ,.\"09-<_";
    private static final int[] KEYS = {8, 13, 13, 129, 129, 130, 131, 140, 154, 155, 200, 251, 252, 254, 255, 0, 27, 127};

    private final Due due;
    private final Random random;
    private final ZInput z;
    private final PlainModel m;
    private final int version;

    private RandomRunsTest(Due due, int seed) {
        this.due = due;
        this.random = new Random(seed);
        this.version = seed % 10;
        this.z = new ZInput(version);
        this.m = new PlainModel(version);
    }

    public static void main(String[] args) {
        Due due = new Due("RandomRunsTest");
        for (int seed = 0; seed < RUNS; seed++) {
            due.run("run " + seed);
            new RandomRunsTest(due, seed).run();
        }
        due.end();
    }

    private void run() {
        for (int i = 0; i < CALLS; i++) {
            call();
        }
        for (int address = 0; address < 4096; address++) {
            due.is("at(" + address + ") in the end", z.at(address), m.at(address));
        }
        for (int i = m.echo.size() - 2001; i <= m.echo.size(); i++) {
            due.is("echo(" + i + ") in the end", z.echo(i), m.echo(i));
        }
        for (int k = 0; k < 9; k++) {
            for (int i = 0; i < 256; i++) {
                due.is("kept(" + k + ", " + i + ") in the end", z.kept(k, i), m.kept(k, i));
            }
        }
    }

    private int below(int n) {
        return random.nextInt(n);
    }

    private int edge() {
        return EDGES[below(EDGES.length)];
    }

    /** A place that other calls use too, now and then an edge. */
    private int place() {
        int kind = below(30);
        return kind == 0 ? edge() : kind == 1 ? 3985 + below(30) : kind == 2 ? below(4096) : 40 * (1 + below(8));
    }

    private int aKey() {
        int kind = below(40);
        return kind == 0 ? edge() : kind < 14 ? KEYS[below(KEYS.length)] : LETTERS.charAt(below(LETTERS.length()));
    }

    private void call() {
        switch (below(24)) {
            case 0, 1 -> putText();
            case 2 -> putDictionary();
            case 3 -> putNoise();
            case 4 -> {
                int from = place(), n = below(9) == 0 ? edge() : below(12), to = place();
                due.is("pack(" + from + ", " + n + ", " + to + ")", z.pack(from, n, to), m.pack(from, n, to));
            }
            case 5 -> {
                int d = place(), table = below(3) == 0 ? 0 : place();
                due.is("tables(" + d + ", " + table + ")", z.tables(d, table), m.tables(d, table));
            }
            case 6 -> {
                int from = place(), n = below(9) == 0 ? edge() : below(4), d = place();
                due.is("look(" + from + ", " + n + ", " + d + ")", z.look(from, n, d), m.look(from, n, d));
            }
            case 7, 8 -> {
                int t = place(), p = place(), d = place();
                boolean flag = below(2) == 0;
                due.is("parse(" + t + ", " + p + ", " + d + ", " + flag + ")", z.parse(t, p, d, flag), m.parse(t, p, d, flag));
            }
            case 9, 10 -> {
                int t = place(), p = below(2) == 0 ? 0 : place();
                due.is("begin(" + t + ", " + p + ")", z.begin(t, p), m.begin(t, p));
            }
            case 11 -> {
                int every = below(9) == 0 ? edge() : below(6), answers = below(3) == 0 ? 0 : 1 << below(40);
                due.is("timed(" + every + ", " + answers + ")", z.timed(every, answers), m.timed(every, answers));
            }
            case 12 -> {
                int ticks = below(30) == 0 ? edge() : below(12);
                due.is("tick(" + ticks + ")", z.tick(ticks), m.tick(ticks));
            }
            case 13, 14 -> {
                int code = aKey();
                due.is("script(" + code + ")", z.script(code), m.script(code));
            }
            case 15 -> due.is("play()", z.play(), m.play());
            case 16 -> ask();
            default -> {
                int code = aKey();
                due.is("key(" + code + ")", z.key(code), m.key(code));
            }
        }
    }

    private void put(int at, int n, long v) {
        due.is("put(" + at + ", " + n + ", " + v + ")", z.put(at, n, v), m.put(at, n, v));
    }

    /** A TEXT of a few CODES, with room for some more. */
    private void putText() {
        int at = place(), n = 1 + below(5);
        long v = below(12) == 0 ? below(256) : below(40);
        if (version == 0 || version > 4) {
            v = v * 256 + (below(4) == 0 ? below(256) : n);
            put(at, 2, v);
            at += 2;
        } else {
            put(at, 1, v);
            at += 1;
        }
        long text = 0;
        for (int i = 0; i < n; i++) {
            text = text * 256 + LETTERS.charAt(below(LETTERS.length()));
        }
        put(at, n + 1, text * 256);
    }

    /** A head with up to two SEPARATORS, and a PACKED word or two behind it. */
    private void putDictionary() {
        int at = place(), n = below(3);
        long v = n;
        for (int i = 0; i < n; i++) {
            v = v * 256 + LETTERS.charAt(below(LETTERS.length()));
        }
        int size = below(12), count = below(6) - 2;
        put(at, n + 4, (v * 256 + size) * 65536 + (count & 65535));
        for (int i = 0; i < 2; i++) {
            int from = place(), letters = below(3), to = at + n + 4 + i * size;
            due.is("pack(" + from + ", " + letters + ", " + to + ")", z.pack(from, letters, to), m.pack(from, letters, to));
        }
    }

    private void putNoise() {
        int n = below(9) == 0 ? edge() : 1 + below(8);
        put(below(2) == 0 ? place() : below(4096), n, below(2) == 0 ? 0 : random.nextLong());
    }

    private void ask() {
        int what = below(9) == 0 ? edge() : below(8), i = below(9) == 0 ? edge() : below(6);
        int k = below(9) == 0 ? edge() : below(9);
        due.is("told(" + what + ")", z.told(what), m.told(what));
        due.is("typed(" + i + ")", z.typed(i), m.typed(i));
        due.is("kept(" + k + ", " + i + ")", z.kept(k, i), m.kept(k, i));
        int e = below(9) == 0 ? edge() : m.echo.size() - below(5);
        due.is("echo(" + e + ")", z.echo(e), m.echo(e));
        int address = below(9) == 0 ? edge() : below(4096);
        due.is("at(" + address + ")", z.at(address), m.at(address));
    }
}
