import java.util.ArrayList;
import java.util.Arrays;
import java.util.List;

/** The document once more, in the slowest and plainest way: lists, single ticks, no rings. */
final class PlainModel {
    static final int NO = -1, BAD = -2, OUTSIDE = -3, FULL = -4;

    final int v;
    final int[] memory = new int[4096];
    final List<List<Integer>> lines = new ArrayList<>();
    final List<Integer> script = new ArrayList<>();
    final List<Integer> echo = new ArrayList<>();
    List<Integer> codes = null;
    int t, p, may, shownLine, calls, every, sinceTold, dictionary, table, ended = NO;
    List<Integer> answers = new ArrayList<>();

    PlainModel(int version) {
        v = version < 1 || version > 8 ? 5 : version;
    }

    private static boolean within(long from, long n) {
        for (long i = from; i < from + n; i++) {
            if (i < 0 || i > 4095) {
                return false;
            }
        }
        return true;
    }

    private static boolean outOf(long x, long low, long high) {
        return x < low || x > high;
    }

    private int u2(int at) {
        return memory[at] << 8 | memory[at + 1];
    }

    int put(int at, int n, long value) {
        if (outOf(n, 1, 8)) {
            return BAD;
        }
        if (!within(at, n)) {
            return OUTSIDE;
        }
        for (int i = at + n - 1; i >= at; i--) {
            memory[i] = (int) (value & 0xff);
            value >>= 8;
        }
        return at + n;
    }

    int at(int address) {
        return within(address, 1) ? memory[address] : OUTSIDE;
    }

    private int[] packed(int[] word) {
        String row = v == 1 ? "0123456789.,!?_#'\"/\\<-:()" : "\r0123456789.,!?_#'\"/\\-:()";
        List<Integer> letters = new ArrayList<>();
        for (int c : word) {
            if (c == ' ') {
                letters.add(0);
            } else if (Character.isLowerCase(c) && c < 128) {
                letters.add(c - 'a' + 6);
            } else if (Character.isUpperCase(c) && c < 128) {
                letters.addAll(List.of(v < 3 ? 2 : 4, c - 'A' + 6));
            } else if (row.indexOf(c) >= 0) {
                letters.addAll(List.of(v < 3 ? 3 : 5, row.indexOf(c) + 7));
            } else {
                letters.addAll(List.of(v < 3 ? 3 : 5, 6, c / 32, c % 32));
            }
        }
        int size = v < 4 ? 6 : 9;
        while (letters.size() < size) {
            letters.add(5);
        }
        int[] octets = new int[size / 3 * 2];
        for (int i = 0; i < size / 3; i++) {
            int u2 = letters.get(3 * i) * 1024 + letters.get(3 * i + 1) * 32 + letters.get(3 * i + 2);
            octets[2 * i] = u2 / 256;
            octets[2 * i + 1] = u2 % 256;
        }
        octets[octets.length - 2] += 128;
        return octets;
    }

    int pack(int from, int n, int to) {
        if (outOf(n, 0, 255)) {
            return BAD;
        }
        int size = v < 4 ? 4 : 6;
        if (!within(from, n) || !within(to, size)) {
            return OUTSIDE;
        }
        int[] octets = packed(n == 0 ? new int[0] : Arrays.copyOfRange(memory, from, from + n));
        System.arraycopy(octets, 0, memory, to, size);
        return size;
    }

    int tables(int d, int tab) {
        if (outOf(d, 0, 4000) || outOf(tab, 0, 4000)) {
            return BAD;
        }
        dictionary = d;
        table = tab;
        return 1;
    }

    private boolean dictionaryWithin(int d) {
        int n = memory[d];
        if (!within(d, 1 + n + 1 + 2)) {
            return false;
        }
        int count = Math.abs((short) u2(d + n + 2));
        for (int i = 0; i < count; i++) {
            int entry = d + n + 4 + i * memory[d + n + 1];
            if (!within(entry, memory[d + n + 1]) || !within(entry, v < 4 ? 4 : 6)) {
                return false;
            }
        }
        return true;
    }

    private int entry(int[] word, int d) {
        int n = memory[d];
        int count = Math.abs((short) u2(d + n + 2));
        int[] octets = packed(word);
        for (int i = 0; i < count; i++) {
            int entry = d + n + 4 + i * memory[d + n + 1];
            if (Arrays.equals(octets, Arrays.copyOfRange(memory, entry, entry + octets.length))) {
                return entry;
            }
        }
        return 0;
    }

    int look(int from, int n, int d) {
        if (outOf(n, 0, 255) || outOf(d, 0, 4000)) {
            return BAD;
        }
        if (!within(from, n) || !dictionaryWithin(d)) {
            return OUTSIDE;
        }
        return entry(n == 0 ? new int[0] : Arrays.copyOfRange(memory, from, from + n), d);
    }

    int parse(int text, int into, int d, boolean flag) {
        if (outOf(text, 0, 4000) || outOf(into, 0, 4000) || outOf(d, 0, 4000)) {
            return BAD;
        }
        int from = v < 5 ? text + 1 : text + 2;
        int end = from;
        if (v < 5) {
            while (end < 4096 && memory[end] != 0) {
                end++;
            }
            if (end == 4096) {
                return OUTSIDE;
            }
        } else {
            end = from + memory[text + 1];
            if (end > 4096) {
                return OUTSIDE;
            }
        }
        if (!dictionaryWithin(d)) {
            return OUTSIDE;
        }
        List<Integer> separators = new ArrayList<>();
        for (int i = 1; i <= memory[d]; i++) {
            separators.add(memory[d + i]);
        }
        List<int[]> words = new ArrayList<>();
        int i = from;
        while (i < end) {
            int j = i;
            while (j < end && memory[j] != 32 && !separators.contains(memory[j])) {
                j++;
            }
            if (j > i) {
                words.add(new int[] {i, j});
                i = j;
            } else {
                if (separators.contains(memory[i])) {
                    words.add(new int[] {i, i + 1});
                }
                i++;
            }
        }
        int told = Math.min(words.size(), memory[into]);
        if (!within(into, 2) || !within(into + 2, 4 * told)) {
            return OUTSIDE;
        }
        int[] after = memory.clone();
        after[into + 1] = told;
        for (int k = 0; k < told; k++) {
            int[] w = words.get(k);
            int e = entry(Arrays.copyOfRange(memory, w[0], w[1]), d);
            if (e != 0 || !flag) {
                after[into + 2 + 4 * k] = e >> 8;
                after[into + 3 + 4 * k] = e & 255;
                after[into + 4 + 4 * k] = (w[1] - w[0]) % 256;
                after[into + 5 + 4 * k] = (w[0] - text) % 256;
            }
        }
        System.arraycopy(after, 0, memory, 0, 4096);
        return words.size();
    }

    int begin(int text, int into) {
        if (codes != null) {
            return NO;
        }
        if (outOf(text, 1, 4000) || outOf(into, 0, 4000)) {
            return BAD;
        }
        int n = memory[text];
        int most = v < 5 ? (n == 0 ? 0 : n - 1) : n;
        int now = v < 5 ? 0 : memory[text + 1];
        if (now > most) {
            return BAD;
        }
        if (v < 5 ? !within(text + 1, most + 1) : !within(text + 1, 1) || !within(text + 2, most)) {
            return OUTSIDE;
        }
        codes = new ArrayList<>();
        for (int i = 0; i < now; i++) {
            codes.add(memory[text + 2 + i]);
        }
        t = text;
        p = into;
        may = most;
        shownLine = -1;
        calls = 0;
        every = 0;
        return most;
    }

    private boolean ends(int key) {
        if (key == 13) {
            return true;
        }
        if (v < 5 || table == 0 || outOf(key, 129, 154) && outOf(key, 252, 254)) {
            return false;
        }
        List<Integer> has = new ArrayList<>();
        for (int i = table; i < 4096 && memory[i] != 0; i++) {
            has.add(memory[i]);
        }
        return has.contains(key) || has.contains(255);
    }

    private void layDown() {
        int at = t + 1;
        if (v >= 5) {
            memory[at++] = codes.size();
        }
        for (int c : codes) {
            memory[at++] = c;
        }
        if (v < 5) {
            memory[at] = 0;
        }
    }

    int key(int key) {
        if (codes == null) {
            return NO;
        }
        if (outOf(key, 0, 255)) {
            return BAD;
        }
        if (ends(key)) {
            layDown();
            if (!codes.isEmpty()) {
                lines.add(codes);
            }
            echo.addAll(codes);
            echo.add(13);
            codes = null;
            ended = key;
            return p != 0 && parse(t, p, dictionary, false) == OUTSIDE ? OUTSIDE : 1;
        }
        // Lines are numbered here from the first one ever; the latest 8 may be shown.
        if (key == 8) {
            codes = new ArrayList<>(codes.subList(0, Math.max(0, codes.size() - 1)));
        } else if (key == 129) {
            int next = shownLine < 0 ? lines.size() - 1 : shownLine - 1;
            if (next >= 0 && next >= lines.size() - 8) {
                show(next);
            }
        } else if (key == 130) {
            if (shownLine >= 0 && shownLine == lines.size() - 1) {
                codes = new ArrayList<>();
                shownLine = -1;
            } else if (shownLine >= 0) {
                show(shownLine + 1);
            }
        } else if ((!outOf(key, 32, 126) || !outOf(key, 155, 251)) && codes.size() < may) {
            codes.add(outOf(key, 65, 90) ? key : key + 32);
        }
        return 0;
    }

    private void show(int line) {
        List<Integer> of = lines.get(line);
        codes = new ArrayList<>(of.subList(0, Math.min(may, of.size())));
        shownLine = line;
    }

    int timed(int ticks, int bits) {
        if (codes == null) {
            return NO;
        }
        if (v < 4 || outOf(ticks, 0, 1000)) {
            return BAD;
        }
        every = ticks;
        sinceTold = 0;
        answers = new ArrayList<>();
        for (int i = 0; i < 32; i++) {
            answers.add(bits >> i & 1);
        }
        return calls;
    }

    int tick(int ticks) {
        if (codes == null) {
            return NO;
        }
        if (outOf(ticks, 0, 100000)) {
            return BAD;
        }
        int came = 0;
        for (int i = 0; i < ticks && codes != null; i++) {
            sinceTold++;
            if (every > 0 && sinceTold % every == 0) {
                calls++;
                came++;
                int answer = answers.isEmpty() ? 0 : answers.remove(0);
                if (answer == 1) {
                    codes = new ArrayList<>();
                    layDown();
                    codes = null;
                    ended = 0;
                }
            }
        }
        return came;
    }

    int script(int key) {
        if (outOf(key, 0, 255)) {
            return BAD;
        }
        if (script.size() == 300) {
            return FULL;
        }
        script.add(key);
        return script.size();
    }

    int play() {
        if (codes == null) {
            return NO;
        }
        int came = 0;
        for (; codes != null && !script.isEmpty(); came++) {
            key(script.remove(0));
        }
        return came;
    }

    int told(int what) {
        boolean on = codes != null;
        return switch (what) {
            case 0 -> on ? 1 : 0;
            case 1 -> on ? codes.size() : 0;
            case 2 -> on ? may : 0;
            case 3 -> script.size();
            case 4 -> Math.min(8, lines.size());
            case 5 -> echo.size();
            case 6 -> ended;
            case 7 -> on ? calls : 0;
            default -> BAD;
        };
    }

    int typed(int i) {
        return codes == null ? NO : outOf(i, 0, codes.size() - 1) ? BAD : codes.get(i);
    }

    int kept(int k, int i) {
        if (outOf(k, 0, Math.min(8, lines.size()) - 1)) {
            return BAD;
        }
        List<Integer> line = lines.get(lines.size() - 1 - k);
        return outOf(i, 0, line.size() - 1) ? BAD : line.get(i);
    }

    int echo(int i) {
        return outOf(i, Math.max(0, echo.size() - 2000), echo.size() - 1) ? BAD : echo.get(i);
    }
}
