/** Promises 12 and 13: script, play. */
final class ScriptTest {
    private static final Due DUE = new Due("ScriptTest");
    private static final int FULL = -4;
    private static final int T = 100;

    public static void main(String[] args) {
        script();
        fullScript();
        play();
        everyKindOfKey();
        playOutside();
        DUE.end();
    }

    private static ZInput reading(int version) {
        ZInput z = new ZInput(version);
        z.put(T, 1, 30L);
        z.begin(T, 0);
        return z;
    }

    private static void script(ZInput z, String keys) {
        for (int i = 0; i < keys.length(); i++) {
            z.script(keys.charAt(i));
        }
    }

    private static void script() {
        DUE.run("script");
        ZInput z = new ZInput(5);
        DUE.is("script(0)", z.script(0), 1);
        DUE.is("script(255)", z.script(255), 2);
        for (int code : new int[] {-1, 256, Integer.MIN_VALUE, Integer.MAX_VALUE}) {
            DUE.is("script(" + code + ")", z.script(code), ZInput.BAD);
        }
        DUE.is("told(3)", z.told(3), 2);
        z = reading(5);
        DUE.is("script(97) in a READ", z.script(97), 1);
        DUE.typed(z, "");
        z.key(13);
        DUE.is("told(3), behind the READ", z.told(3), 1);
    }

    private static void fullScript() {
        DUE.run("a full script");
        ZInput z = new ZInput(5);
        for (int i = 0; i < 300; i++) {
            DUE.is("script", z.script(i == 4 ? 13 : 'a' + i % 26), i + 1);
        }
        DUE.is("script(97)", z.script(97), FULL);
        DUE.is("script(256), BAD before FULL", z.script(256), ZInput.BAD);
        DUE.is("told(3)", z.told(3), 300);
        z.put(T, 1, 250L);
        z.begin(T, 0);
        DUE.is("play()", z.play(), 5);
        DUE.is("told(3)", z.told(3), 295);
        DUE.is("script(64)", z.script('@'), 296);
        DUE.is("script(13)", z.script(13), 297);
        DUE.is("script(120)", z.script('x'), 298);
        z.put(T + 1, 1, 0L);
        z.begin(T, 0);
        DUE.is("play()", z.play(), 297);
        DUE.is("told(3)", z.told(3), 1);
        DUE.is("kept(0, 0)", z.kept(0, 0), 'f');
        DUE.is("kept(0, 249)", z.kept(0, 249), 'a' + (249 + 5) % 26);
        z.put(T + 1, 1, 0L);
        z.begin(T, 0);
        DUE.is("play()", z.play(), 1);
        DUE.typed(z, "x");
    }

    private static void play() {
        DUE.run("play");
        ZInput z = new ZInput(5);
        script(z, "Hi\rho\r");
        DUE.is("play() without a READ", z.play(), ZInput.NO);
        DUE.is("told(3)", z.told(3), 6);
        z.put(T, 1, 9L);
        z.begin(T, 0);
        z.key('>');
        DUE.is("play()", z.play(), 3);
        DUE.is("told(0)", z.told(0), 0);
        DUE.is("told(3)", z.told(3), 3);
        DUE.is("told(6)", z.told(6), 13);
        DUE.kept(z, 0, ">hi");
        DUE.is("play() behind it", z.play(), ZInput.NO);
        z.put(T + 1, 1, 0L);
        z.begin(T, 0);
        DUE.is("play()", z.play(), 3);
        DUE.kept(z, 0, "ho");
        z.put(T + 1, 1, 0L);
        z.begin(T, 0);
        DUE.is("play() with none", z.play(), 0);
        DUE.is("told(0)", z.told(0), 1);
        script(z, "ab");
        DUE.is("play()", z.play(), 2);
        DUE.typed(z, "ab");
        DUE.is("told(3)", z.told(3), 0);
    }

    private static void everyKindOfKey() {
        DUE.run("every kind of KEY");
        ZInput z = reading(5);
        Due.lay(z, 50, 254);
        z.tables(0, 50);
        script(z, "one\r");
        z.play();
        z.put(T + 1, 1, 0L);
        z.begin(T, 0);
        script(z, "x\u0001\u0081\b\u0080\u00c8\u00fd\u00feq");
        DUE.is("play()", z.play(), 8);
        DUE.is("told(6)", z.told(6), 254);
        DUE.kept(z, 0, "on\u00c8");
        DUE.is("told(3)", z.told(3), 1);
    }

    private static void playOutside() {
        DUE.run("play, PARSED OUTSIDE");
        ZInput z = new ZInput(5);
        z.put(T, 1, 30L);
        Due.lay(z, 1000, 0, 6, 127, 255);
        z.tables(1000, 0);
        z.begin(T, 600);
        script(z, "a\rb");
        // The promise tells how many came, and no refusal but NO.
        DUE.is("play()", z.play(), 2);
        DUE.is("told(0)", z.told(0), 0);
        DUE.is("told(3)", z.told(3), 1);
    }
}
