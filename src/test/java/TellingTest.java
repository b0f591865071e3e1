/** Promises 14 to 17: told, typed, kept, echo. */
final class TellingTest {
    private static final Due DUE = new Due("TellingTest");
    private static final int T = 100;

    public static void main(String[] args) {
        told();
        typed();
        kept();
        echo();
        longEcho();
        DUE.end();
    }

    private static void tells(ZInput z, int... want) {
        for (int what = 0; what < want.length; what++) {
            DUE.is("told(" + what + ")", z.told(what), want[what]);
        }
    }

    private static void told() {
        DUE.run("told");
        ZInput z = new ZInput(5);
        for (int what : new int[] {-1, 8, Integer.MIN_VALUE, Integer.MAX_VALUE}) {
            DUE.is("told(" + what + ")", z.told(what), ZInput.BAD);
        }
        tells(z, 0, 0, 0, 0, 0, 0, ZInput.NO, 0);
        z.put(T, 1, 9L);
        z.script('a');
        z.begin(T, 0);
        tells(z, 1, 0, 9, 1, 0, 0, ZInput.NO, 0);
        z.timed(1, 0);
        z.tick(3);
        Due.press(z, "hello");
        tells(z, 1, 5, 9, 1, 0, 0, ZInput.NO, 3);
        z.key(13);
        tells(z, 0, 0, 0, 1, 1, 6, 13, 0);
        z.begin(T, 0);
        tells(z, 1, 5, 9, 1, 1, 6, 13, 0);
        z.play();
        z.timed(1, 1);
        z.tick(1);
        tells(z, 0, 0, 0, 0, 1, 6, 0, 0);
    }

    private static void typed() {
        DUE.run("typed");
        ZInput z = new ZInput(5);
        DUE.is("typed(0)", z.typed(0), ZInput.NO);
        DUE.is("typed(-1)", z.typed(-1), ZInput.NO);
        z.put(T, 1, 9L);
        z.begin(T, 0);
        Due.press(z, "Ab\u00fb");
        DUE.typed(z, "ab\u00fb");
        for (int i : new int[] {-1, 3, 255, Integer.MIN_VALUE, Integer.MAX_VALUE}) {
            DUE.is("typed(" + i + ")", z.typed(i), ZInput.BAD);
        }
        z.key(8);
        DUE.is("typed(2), deleted", z.typed(2), ZInput.BAD);
        z.key(13);
        DUE.is("typed(0)", z.typed(0), ZInput.NO);
    }

    private static void kept() {
        DUE.run("kept");
        ZInput z = new ZInput(5);
        z.put(T, 1, 9L);
        z.begin(T, 0);
        Due.press(z, "abc\r");
        z.put(T + 1, 1, 0L);
        z.begin(T, 0);
        Due.press(z, "x\r");
        DUE.kept(z, 0, "x");
        DUE.kept(z, 1, "abc");
        for (int wrong : new int[] {-1, 8, 255, Integer.MIN_VALUE, Integer.MAX_VALUE}) {
            DUE.is("kept(" + wrong + ", 0)", z.kept(wrong, 0), ZInput.BAD);
            DUE.is("kept(0, " + wrong + ")", z.kept(0, wrong), ZInput.BAD);
        }
        DUE.is("kept(2, 0)", z.kept(2, 0), ZInput.BAD);
        // A short LINE in the place of a long one has no more CODES than its own.
        for (int i = 0; i < 8; i++) {
            z.put(T + 1, 1, 0L);
            z.begin(T, 0);
            Due.press(z, "y\r");
        }
        for (int k = 0; k < 8; k++) {
            DUE.kept(z, k, "y");
        }
    }

    private static void echo() {
        DUE.run("echo");
        ZInput z = new ZInput(3);
        z.put(T, 1, 9L);
        z.begin(T, 0);
        Due.press(z, "ab\r");
        z.begin(T, 0);
        Due.press(z, "c\r");
        int[] want = {'a', 'b', 13, 'c', 13};
        for (int i = 0; i < want.length; i++) {
            DUE.is("echo(" + i + ")", z.echo(i), want[i]);
        }
        for (int i : new int[] {-1, 5, 2000, Integer.MIN_VALUE, Integer.MAX_VALUE}) {
            DUE.is("echo(" + i + ")", z.echo(i), ZInput.BAD);
        }
    }

    private static void longEcho() {
        DUE.run("a long echo");
        ZInput z = new ZInput(5);
        z.put(T, 1, 249L);
        StringBuilder all = new StringBuilder();
        for (int read = 0; read < 20; read++) {
            z.put(T + 1, 2, 249 * 256 + 'a' + read);
            z.begin(T, 0);
            z.key(13);
            all.append((char) ('a' + read)).append("\0".repeat(248)).append('\r');
            int total = all.length();
            DUE.is("told(5)", z.told(5), total);
            DUE.is("echo, the last", z.echo(total - 1), 13);
            DUE.is("echo, behind the last", z.echo(total), ZInput.BAD);
            DUE.is("echo, the first of the READ", z.echo(total - 250), 'a' + read);
            int oldest = Math.max(0, total - 2000);
            DUE.is("echo, the oldest", z.echo(oldest), all.charAt(oldest));
            DUE.is("echo, before the oldest", z.echo(oldest - 1), ZInput.BAD);
        }
    }
}
