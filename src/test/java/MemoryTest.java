/** Promises 1 to 3: a new object, put, at. */
final class MemoryTest {
    private static final Due DUE = new Due("MemoryTest");

    public static void main(String[] args) {
        newObject();
        versions();
        put();
        wrongPuts();
        at();
        DUE.end();
    }

    private static void newObject() {
        DUE.run("a new object");
        for (int version = -1; version <= 9; version++) {
            ZInput z = new ZInput(version);
            int[] told = {0, 0, 0, 0, 0, 0, ZInput.NO, 0};
            for (int what = 0; what < told.length; what++) {
                DUE.is("told(" + what + ")", z.told(what), told[what]);
            }
            DUE.is("key(13)", z.key(13), ZInput.NO);
            DUE.is("kept(0, 0)", z.kept(0, 0), ZInput.BAD);
            DUE.is("echo(0)", z.echo(0), ZInput.BAD);
        }
        ZInput z = new ZInput(3);
        for (int address = 0; address < 500; address++) {
            DUE.is("at(" + address * 8 + ")", z.at(address * 8), 0);
        }
        DUE.octets(z, 4090, 0, 0, 0, 0, 0, 0);
        dictionaryAtZero();
    }

    private static void dictionaryAtZero() {
        DUE.run("THE DICTIONARY is at 0, THE TABLE at 0");
        ZInput z = new ZInput(5);
        // One ENTRY at 4, "a".
        Due.lay(z, 100, "a");
        z.pack(100, 1, 4);
        Due.lay(z, 0, 0, 6, 0, 1);
        Due.lay(z, 200, 5);
        Due.lay(z, 300, 5);
        z.begin(200, 300);
        Due.press(z, "a\r");
        DUE.octets(z, 300, 5, 1, 0, 4, 1, 2);
        Due.lay(z, 0, 255, 255, 255);
        Due.lay(z, 201, 0);
        z.begin(200, 0);
        DUE.is("key(254)", z.key(254), 0);
    }

    private static void versions() {
        DUE.run("the version");
        for (int version : new int[] {1, 2, 3, 4, 5, 6, 7, 8, 0, 9, -1, Integer.MIN_VALUE, Integer.MAX_VALUE}) {
            ZInput z = new ZInput(version);
            Due.lay(z, 100, 9);
            boolean early = version >= 1 && version <= 4;
            DUE.is("begin(100, 0), version " + version, z.begin(100, 0), early ? 8 : 9);
            DUE.is("timed(1, 0), version " + version, z.timed(1, 0), version >= 1 && version <= 3 ? ZInput.BAD : 0);
            DUE.is("pack(0, 0, 0), version " + version, z.pack(0, 0, 0), version >= 1 && version <= 3 ? 4 : 6);
        }
    }

    private static void put() {
        DUE.run("put");
        ZInput z = new ZInput(5);
        DUE.is("put(10, 8, ..)", z.put(10, 8, 0x0123456789abcdefL), 18);
        DUE.octets(z, 9, 0, 0x01, 0x23, 0x45, 0x67, 0x89, 0xab, 0xcd, 0xef, 0);
        DUE.is("put(12, 3, ..)", z.put(12, 3, -2L), 15);
        DUE.octets(z, 11, 0x23, 255, 255, 254, 0xab);
        DUE.is("put(12, 1, 511)", z.put(12, 1, 511L), 13);
        DUE.octets(z, 11, 0x23, 255, 255);
        DUE.is("put(20, 2, ..)", z.put(20, 2, 0x12345678L), 22);
        DUE.octets(z, 19, 0, 0x56, 0x78, 0);
        DUE.is("put(30, 8, MIN)", z.put(30, 8, Long.MIN_VALUE), 38);
        DUE.octets(z, 30, 128, 0, 0, 0, 0, 0, 0, 0);
        DUE.is("put(0, 1, 7)", z.put(0, 1, 7L), 1);
        DUE.is("put(4095, 1, 8)", z.put(4095, 1, 8L), 4096);
        DUE.is("put(4088, 7, 1)", z.put(4088, 7, 1L), 4095);
        DUE.octets(z, 4094, 1, 8);
        DUE.is("put(4088, 8, 9)", z.put(4088, 8, 9L), 4096);
        DUE.octets(z, 4094, 0, 9);
    }

    private static void wrongPuts() {
        DUE.run("wrong puts");
        ZInput z = new ZInput(5);
        for (int n : new int[] {0, -1, 9, Integer.MIN_VALUE, Integer.MAX_VALUE}) {
            DUE.is("put(10, " + n + ", 1)", z.put(10, n, 1L), ZInput.BAD);
            DUE.is("put(-1, " + n + ", 1)", z.put(-1, n, 1L), ZInput.BAD);
        }
        for (int address : new int[] {-1, -8, 4096, 4089, Integer.MIN_VALUE, Integer.MAX_VALUE, Integer.MAX_VALUE - 7}) {
            DUE.is("put(" + address + ", 8, -1)", z.put(address, 8, -1L), ZInput.OUTSIDE);
        }
        DUE.is("put(4096, 1, 1)", z.put(4096, 1, 1L), ZInput.OUTSIDE);
        DUE.octets(z, 0, 0, 0, 0, 0, 0, 0, 0, 0);
        DUE.octets(z, 4088, 0, 0, 0, 0, 0, 0, 0, 0);
    }

    private static void at() {
        DUE.run("at");
        ZInput z = new ZInput(1);
        z.put(0, 1, 200L);
        z.put(4095, 1, 100L);
        DUE.is("at(0)", z.at(0), 200);
        DUE.is("at(4095)", z.at(4095), 100);
        for (int address : new int[] {-1, 4096, Integer.MIN_VALUE, Integer.MAX_VALUE}) {
            DUE.is("at(" + address + ")", z.at(address), ZInput.OUTSIDE);
        }
    }
}
