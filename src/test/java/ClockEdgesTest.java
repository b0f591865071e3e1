/** The edges of the term THE CLOCK: a test for each sentence that names one. */
final class ClockEdgesTest {
    private static final Due DUE = new Due("ClockEdgesTest");
    private static final int T = Setting.TEXT;
    private static final int P = Setting.PARSED;

    public static void main(String[] args) {
        firstVersion();
        eachTime();
        sinceTold();
        lowestFirst();
        zerosBehind();
        endsByZero();
        nothingIsKept();
        DUE.end();
    }

    private static void firstVersion() {
        DUE.sentence("THE CLOCK: from V 4 on a READ may have calls,");
        for (int version = 1; version <= 8; version++) {
            ZInput z = Setting.reading(version, 9);
            DUE.is("timed(1, 0), version " + version, z.timed(1, 0), version >= 4 ? 0 : ZInput.BAD);
            DUE.is("tick(7), version " + version, z.tick(7), version >= 4 ? 7 : 0);
            DUE.is("told(7), version " + version, z.told(7), version >= 4 ? 7 : 0);
            z = Setting.reading(version, 9);
            DUE.is("tick(100000), none told", z.tick(100000), 0);
        }
    }

    private static void eachTime() {
        DUE.sentence("one each time that so many TICKS went by since it began (or since that was told):");
        for (int every : new int[] {1, 2, 7, 999, 1000}) {
            ZInput z = Setting.reading(5, 9);
            z.timed(every, 0);
            DUE.is("tick, one too few of " + every, z.tick(every - 1), 0);
            DUE.is("tick(1)", z.tick(1), 1);
            DUE.is("tick, thrice less one of " + every, z.tick(3 * every - 1), 2);
            DUE.is("tick(1)", z.tick(1), 1);
            DUE.is("tick(0)", z.tick(0), 0);
            DUE.is("told(7)", z.told(7), 4);
        }
        // A KEY between them is no matter, as long as the READ goes on.
        ZInput z = Setting.reading(4, 9);
        z.timed(3, 0);
        z.tick(2);
        z.key('a');
        z.key(8);
        DUE.is("tick(1)", z.tick(1), 1);
        // The next READ has none till it is told, and counts from then on.
        z.tick(2);
        z.key(13);
        Setting.again(z, 0);
        DUE.is("tick(8), none told in this READ", z.tick(8), 0);
        z.timed(3, 0);
        DUE.is("tick(2), the next READ", z.tick(2), 0);
        DUE.is("tick(1), the next READ", z.tick(1), 1);
    }

    private static void sinceTold() {
        DUE.sentence("(or since that was told)");
        ZInput z = Setting.reading(5, 9);
        z.tick(9);
        z.timed(10, 0);
        DUE.is("tick(9), 9 went by before", z.tick(9), 0);
        z.timed(10, 0);
        DUE.is("tick(9), told again", z.tick(9), 0);
        DUE.is("tick(1)", z.tick(1), 1);
        // The answers begin anew, too.
        z.timed(1, 4);
        DUE.is("tick(2)", z.tick(2), 2);
        z.timed(1, 4);
        DUE.is("tick(2), told again", z.tick(2), 2);
        DUE.is("told(0)", z.told(0), 1);
        DUE.is("tick(1)", z.tick(1), 1);
        DUE.is("told(0)", z.told(0), 0);
    }

    private static void lowestFirst() {
        DUE.sentence("what they answer is told as 32 bits, the lowest first,");
        for (int bit = 0; bit < 32; bit++) {
            ZInput z = Setting.reading(5, 9);
            z.timed(2, 1 << bit);
            DUE.is("tick, before bit " + bit, z.tick(2 * bit + 1), bit);
            DUE.is("told(0)", z.told(0), 1);
            DUE.is("tick(1), bit " + bit, z.tick(1), 1);
            DUE.is("told(0)", z.told(0), 0);
            z = Setting.reading(5, 9);
            z.timed(2, -1 << bit);
            DUE.is("tick(1000), higher bits are 1, too", z.tick(1000), bit + 1);
            DUE.is("told(0)", z.told(0), 0);
        }
    }

    private static void zerosBehind() {
        DUE.sentence("then 0s.");
        ZInput z = Setting.reading(5, 9);
        z.timed(1, 0);
        DUE.is("tick(100000)", z.tick(100000), 100000);
        DUE.is("told(0)", z.told(0), 1);
        // No answer comes a second time.
        for (int before = 31; before <= 33; before++) {
            z = Setting.reading(5, 9);
            z.timed(1, 0);
            z.tick(before);
            for (int i = 0; i < 40; i++) {
                DUE.is("tick(1)", z.tick(1), 1);
            }
            DUE.is("told(7)", z.told(7), before + 40);
            DUE.is("told(0)", z.told(0), 1);
        }
        z = Setting.reading(5, 9);
        z.timed(1, Integer.MIN_VALUE);
        DUE.is("tick(31)", z.tick(31), 31);
        DUE.is("told(0), the last bit is still to come", z.told(0), 1);
        DUE.is("tick(100)", z.tick(100), 1);
    }

    private static void endsByZero() {
        DUE.sentence("With a 1 the READ ENDS by 0: there are no CODES any more; these are laid down (none),");
        for (int version = 4; version <= 8; version++) {
            ZInput z = new ZInput(version);
            Due.lay(z, T, 9, version == 4 ? 5 : 2, 'x', 'y', 'z');
            z.begin(T, 0);
            Due.press(z, "abc");
            z.timed(10, 1);
            DUE.is("tick(9)", z.tick(9), 0);
            DUE.is("told(0)", z.told(0), 1);
            DUE.is("tick(50), no more than one call comes", z.tick(50), 1);
            DUE.is("told(0)", z.told(0), 0);
            DUE.is("told(6)", z.told(6), 0);
            DUE.is("told(1)", z.told(1), 0);
            DUE.octets(z, T, 9, 0, 'x', 'y', 'z');
            DUE.is("begin", z.begin(T, 0), version == 4 ? 8 : 9);
            DUE.typed(z, "");
        }
    }

    private static void nothingIsKept() {
        DUE.sentence("nothing is kept, echoed or PARSED.");
        for (int version = 4; version <= 8; version++) {
            ZInput z = new ZInput(version);
            z.put(T, 1, 9L);
            Due.lay(z, P, 9, 77, 7, 7, 7, 7);
            z.begin(T, P);
            Due.press(z, "abc");
            z.timed(1, 1);
            DUE.is("tick(1)", z.tick(1), 1);
            DUE.is("told(4)", z.told(4), 0);
            DUE.is("kept(0, 0)", z.kept(0, 0), ZInput.BAD);
            DUE.is("told(5)", z.told(5), 0);
            DUE.is("echo(0)", z.echo(0), ZInput.BAD);
            DUE.octets(z, P, 9, 77, 7, 7, 7, 7);
            // Not PARSED, so nothing is OUTSIDE either.
            Due.lay(z, 3000, 0, 6, 127, 255);
            z.tables(3000, 0);
            z.begin(T, P);
            z.timed(1, 1);
            DUE.is("tick(1), the DICTIONARY is OUTSIDE", z.tick(1), 1);
        }
    }
}
