/** Promises 10 and 11: timed, tick. */
final class ClockTest {
    private static final Due DUE = new Due("ClockTest");
    private static final int T = 100;

    public static void main(String[] args) {
        calls();
        toldAgain();
        everyBit();
        manyTicks();
        endedByClock();
        nextRead();
        noCalls();
        earlyVersions();
        refusals();
        DUE.end();
    }

    private static ZInput reading(int version) {
        ZInput z = new ZInput(version);
        z.put(T, 1, 9L);
        z.begin(T, 0);
        return z;
    }

    private static void calls() {
        DUE.run("calls");
        ZInput z = reading(5);
        DUE.is("tick(100), none told", z.tick(100), 0);
        DUE.is("timed(10, 0)", z.timed(10, 0), 0);
        DUE.is("tick(9)", z.tick(9), 0);
        DUE.is("tick(0)", z.tick(0), 0);
        DUE.is("tick(1)", z.tick(1), 1);
        DUE.is("tick(0)", z.tick(0), 0);
        DUE.is("tick(25)", z.tick(25), 2);
        DUE.is("tick(5)", z.tick(5), 1);
        DUE.is("told(7)", z.told(7), 4);
        z.key('a');
        DUE.is("told(7)", z.told(7), 4);
        DUE.typed(z, "a");
    }

    private static void toldAgain() {
        DUE.run("told again");
        ZInput z = reading(4);
        z.timed(10, 4);
        DUE.is("tick(29)", z.tick(29), 2);
        DUE.is("timed(10, 2)", z.timed(10, 2), 2);
        DUE.is("tick(9)", z.tick(9), 0);
        DUE.is("tick(1)", z.tick(1), 1);
        DUE.is("timed(0, -1)", z.timed(0, -1), 3);
        DUE.is("tick(1000)", z.tick(1000), 0);
        DUE.is("timed(5, 2)", z.timed(5, 2), 3);
        DUE.is("told(7)", z.told(7), 3);
        DUE.is("tick(9)", z.tick(9), 1);
        DUE.is("told(7)", z.told(7), 4);
        DUE.is("tick(1)", z.tick(1), 1);
        DUE.is("told(0)", z.told(0), 0);
    }

    private static void everyBit() {
        DUE.run("every bit");
        for (int bit = 0; bit < 32; bit++) {
            ZInput z = reading(8);
            z.timed(3, 1 << bit);
            DUE.is("tick, bit " + bit, z.tick(3 * bit + 2), bit);
            DUE.is("told(0)", z.told(0), 1);
            DUE.is("tick(100000), bit " + bit, z.tick(100000), 1);
            DUE.is("told(0)", z.told(0), 0);
            z = reading(8);
            z.timed(1, 1 << bit);
            DUE.is("tick(100000) at once, bit " + bit, z.tick(100000), bit + 1);
            z = reading(8);
            z.timed(1, -1 << bit);
            DUE.is("tick(100000), the lowest counts, bit " + bit, z.tick(100000), bit + 1);
        }
    }

    private static void manyTicks() {
        DUE.run("many ticks");
        ZInput z = reading(6);
        z.timed(1, 0);
        DUE.is("tick(100000)", z.tick(100000), 100000);
        DUE.is("tick(100000)", z.tick(100000), 100000);
        DUE.is("told(7)", z.told(7), 200000);
        DUE.is("timed(1000, 0)", z.timed(1000, 0), 200000);
        DUE.is("tick(99999)", z.tick(99999), 99);
        DUE.is("tick(1)", z.tick(1), 1);
        DUE.is("told(7)", z.told(7), 200100);
        // Behind the 32 bits there are 0s; they do not begin anew.
        z = reading(6);
        z.timed(2, 0);
        z.tick(32);
        z.timed(2, 1 << 31);
        DUE.is("tick(62)", z.tick(62), 31);
        DUE.is("told(0)", z.told(0), 1);
        DUE.is("tick(2)", z.tick(2), 1);
        DUE.is("told(0)", z.told(0), 0);
    }

    private static void endedByClock() {
        for (int version : new int[] {4, 5}) {
            DUE.run("ended by the clock, version " + version);
            ZInput z = new ZInput(version);
            Due.lay(z, T, 9, 0, 'x', 'y');
            Due.lay(z, 600, 9, 77);
            z.begin(T, 600);
            Due.press(z, "abc");
            z.timed(5, 1);
            DUE.is("tick(7)", z.tick(7), 1);
            DUE.is("told(0)", z.told(0), 0);
            DUE.is("told(1)", z.told(1), 0);
            DUE.is("told(4)", z.told(4), 0);
            DUE.is("told(5)", z.told(5), 0);
            DUE.is("told(6)", z.told(6), 0);
            DUE.is("told(7)", z.told(7), 0);
            DUE.octets(z, T, 9, 0, 'x', 'y');
            DUE.octets(z, 600, 9, 77, 0);
            DUE.is("tick(1)", z.tick(1), ZInput.NO);
            DUE.is("typed(0)", z.typed(0), ZInput.NO);
            z.put(T + 1, 1, version == 4 ? 7L : 2L);
            z.begin(T, 0);
            z.timed(1, 1);
            z.tick(1);
            DUE.octets(z, T, 9, 0, 'x', 'y');
        }
    }

    private static void nextRead() {
        DUE.run("the next READ");
        ZInput z = reading(5);
        z.timed(2, 8);
        z.tick(3);
        z.key(13);
        DUE.is("told(7), no READ", z.told(7), 0);
        z.begin(T, 0);
        DUE.is("told(7)", z.told(7), 0);
        DUE.is("tick(50), none told in this READ", z.tick(50), 0);
        DUE.is("timed(2, 0)", z.timed(2, 0), 0);
        DUE.is("tick(1)", z.tick(1), 0);
        DUE.is("tick(1)", z.tick(1), 1);
    }

    private static void noCalls() {
        DUE.run("0: none come");
        ZInput z = reading(5);
        DUE.is("timed(0, -1)", z.timed(0, -1), 0);
        DUE.is("tick(100000)", z.tick(100000), 0);
        DUE.is("told(0)", z.told(0), 1);
    }

    private static void earlyVersions() {
        DUE.run("before version 4");
        for (int version = 1; version <= 3; version++) {
            ZInput z = reading(version);
            DUE.is("timed(1, 1)", z.timed(1, 1), ZInput.BAD);
            DUE.is("timed(0, 0)", z.timed(0, 0), ZInput.BAD);
            DUE.is("tick(100)", z.tick(100), 0);
            DUE.is("tick(-1)", z.tick(-1), ZInput.BAD);
            DUE.is("told(0)", z.told(0), 1);
            z.key(13);
            DUE.is("timed(1, 1), NO before BAD", z.timed(1, 1), ZInput.NO);
        }
    }

    private static void refusals() {
        DUE.run("refusals");
        ZInput z = new ZInput(5);
        DUE.is("timed(-1, 0)", z.timed(-1, 0), ZInput.NO);
        DUE.is("tick(-1)", z.tick(-1), ZInput.NO);
        z = reading(5);
        z.timed(1000, 0);
        for (int every : new int[] {-1, 1001, Integer.MIN_VALUE, Integer.MAX_VALUE}) {
            DUE.is("timed(" + every + ", 1)", z.timed(every, 1), ZInput.BAD);
        }
        for (int ticks : new int[] {-1, 100001, Integer.MIN_VALUE, Integer.MAX_VALUE}) {
            DUE.is("tick(" + ticks + ")", z.tick(ticks), ZInput.BAD);
        }
        DUE.is("tick(999), what was refused changed nothing", z.tick(999), 0);
        DUE.is("tick(1)", z.tick(1), 1);
        DUE.is("told(0)", z.told(0), 1);
    }
}
