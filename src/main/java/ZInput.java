/**
 * How a story machine (the Z-machine, versions 1 to 8) takes its input. The document's promises
 * tell what each call answers; words in capitals below are the document's own terms.
 */
public final class ZInput {

    public static final int NO = -1, BAD = -2, OUTSIDE = -3;

    private static final int FULL = -4;

    private static final int HIGHEST_CODE = 255;
    private static final int HIGHEST_START = 4000;
    private static final int MOST_CODES = 255;
    private static final int MOST_TICKS_BETWEEN_CALLS = 1000;
    private static final int MOST_TICKS = 100000;

    private static final int DELETE = 8;
    private static final int ENTER = 13;
    private static final int SPACE = 32;
    private static final int OLDER_LINE = 129;
    private static final int NEWER_LINE = 130;
    private static final int EVERY_ENDING_KEY = 255;

    private static final int FIRST_VERSION_WITH_CLOCK = 4;
    private static final int FIRST_VERSION_THAT_COUNTS = 5;

    private final int version;
    private final Memory memory;
    private final Packer packer;
    private final Dictionary dictionary;
    private final Parser parser;
    private final Reading reading;
    private final Clock clock;
    private final Lines lines;
    private final Echo echoed;
    private final Script keys;
    private int dictionaryAt;
    private int tableAt;
    private int ended;

    public ZInput(int version) {
        int v = version >= 1 && version <= 8 ? version : 5;
        Memory octets = new Memory();
        Packer words = new Packer(octets, v);
        Dictionary entries = new Dictionary(octets, words.octets);
        this.version = v;
        this.memory = octets;
        this.packer = words;
        this.dictionary = entries;
        this.parser = new Parser(octets, words, entries, v >= FIRST_VERSION_THAT_COUNTS);
        this.reading = new Reading();
        this.clock = new Clock();
        this.lines = new Lines();
        this.echoed = new Echo();
        this.keys = new Script();
        this.dictionaryAt = 0;
        this.tableAt = 0;
        this.ended = NO;
    }

    public int put(int at, int n, long v) {
        if (n < 1 || n > 8) {
            return BAD;
        }
        if (!memory.holds(at, n)) {
            return OUTSIDE;
        }
        memory.store(at, n, v);
        return at + n;
    }

    public int at(int address) {
        return memory.holds(address, 1) ? memory.octet(address) : OUTSIDE;
    }

    public int pack(int from, int n, int to) {
        if (n < 0 || n > MOST_CODES) {
            return BAD;
        }
        if (!memory.holds(from, n) || !memory.holds(to, packer.octets)) {
            return OUTSIDE;
        }
        memory.store(to, packer.octets, packer.packed(from, n));
        return packer.octets;
    }

    public int tables(int dictionary, int table) {
        if (!isStart(dictionary) || !isStart(table)) {
            return BAD;
        }
        dictionaryAt = dictionary;
        tableAt = table;
        return 1;
    }

    public int look(int from, int n, int d) {
        if (n < 0 || n > MOST_CODES || !isStart(d)) {
            return BAD;
        }
        if (!memory.holds(from, n) || !dictionary.open(d)) {
            return OUTSIDE;
        }
        return dictionary.entryOf(packer.packed(from, n));
    }

    public int parse(int t, int p, int d, boolean flag) {
        if (!isStart(t) || !isStart(p) || !isStart(d)) {
            return BAD;
        }
        return parser.run(t, p, d, flag);
    }

    // ---- reading

    public int begin(int t, int p) {
        if (reading.open) {
            return NO;
        }
        if (t < 1 || !isStart(t) || !isStart(p)) {
            return BAD;
        }
        int n = memory.octet(t);
        int limit = countsCodes() ? n : Math.max(n - 1, 0);
        int preset = countsCodes() ? memory.octet(t + 1) : 0;
        if (preset > limit) {
            return BAD;
        }
        // Beside the CODES one octet more is laid down in every version: their number, or a 0.
        if (!memory.holds(t + 1, limit + 1)) {
            return OUTSIDE;
        }
        reading.start(t, p, limit);
        for (int i = 0; i < preset; i++) {
            reading.add(memory.octet(t + 2 + i));
        }
        clock.restart();
        return limit;
    }

    public int key(int code) {
        if (!reading.open) {
            return NO;
        }
        return isCode(code) ? press(code) : BAD;
    }

    public int timed(int every, int answers) {
        if (!reading.open) {
            return NO;
        }
        if (version < FIRST_VERSION_WITH_CLOCK || every < 0 || every > MOST_TICKS_BETWEEN_CALLS) {
            return BAD;
        }
        clock.set(every, answers);
        return clock.calls;
    }

    public int tick(int ticks) {
        if (!reading.open) {
            return NO;
        }
        if (ticks < 0 || ticks > MOST_TICKS) {
            return BAD;
        }
        int came = clock.pass(ticks);
        if (clock.stopped) {
            endByClock();
        }
        return came;
    }

    public int script(int code) {
        if (!isCode(code)) {
            return BAD;
        }
        return keys.add(code) ? keys.count : FULL;
    }

    public int play() {
        if (!reading.open) {
            return NO;
        }
        int there = keys.count;
        int came = 0;
        while (came < there && reading.open) {
            press(keys.takeFirst());
            came++;
        }
        return came;
    }

    // ---- what there is

    public int told(int what) {
        switch (what) {
            case 0:
                return reading.open ? 1 : 0;
            case 1:
                return reading.open ? reading.count : 0;
            case 2:
                return reading.open ? reading.limit : 0;
            case 3:
                return keys.count;
            case 4:
                return lines.count;
            case 5:
                return echoed.total;
            case 6:
                return ended;
            case 7:
                return reading.open ? clock.calls : 0;
            default:
                return BAD;
        }
    }

    public int typed(int i) {
        if (!reading.open) {
            return NO;
        }
        return i >= 0 && i < reading.count ? reading.code(i) : BAD;
    }

    public int kept(int k, int i) {
        return i >= 0 && i < lines.length(k) ? lines.code(k, i) : BAD;
    }

    public int echo(int i) {
        return echoed.has(i) ? echoed.code(i) : BAD;
    }

    // ---- what the calls share

    private static boolean isCode(int code) {
        return code >= 0 && code <= HIGHEST_CODE;
    }

    private static boolean isStart(int address) {
        return address >= 0 && address <= HIGHEST_START;
    }

    private boolean countsCodes() {
        return version >= FIRST_VERSION_THAT_COUNTS;
    }

    private int press(int code) {
        if (isEnding(code)) {
            return endByKey(code);
        }
        if (code == DELETE) {
            reading.dropLast();
        } else if (code == OLDER_LINE) {
            showOlderLine();
        } else if (code == NEWER_LINE) {
            showNewerLine();
        } else if (isTypable(code)) {
            reading.add(lowerCase(code));
        }
        return 0;
    }

    private boolean isEnding(int code) {
        if (code == ENTER) {
            return true;
        }
        boolean mayEnd = code >= 129 && code <= 154 || code >= 252 && code <= 254;
        return mayEnd && countsCodes() && tableAt != 0 && tableHas(code);
    }

    private boolean tableHas(int code) {
        for (int address = tableAt; address < Memory.SIZE; address++) {
            int octet = memory.octet(address);
            if (octet == 0) {
                return false;
            }
            if (octet == code || octet == EVERY_ENDING_KEY) {
                return true;
            }
        }
        return false;
    }

    private static boolean isTypable(int code) {
        return code >= 32 && code <= 126 || code >= 155 && code <= 251;
    }

    private static int lowerCase(int code) {
        return code >= 'A' && code <= 'Z' ? code - 'A' + 'a' : code;
    }

    private void showOlderLine() {
        int k = reading.shown + 1;
        if (k < lines.count) {
            showLine(k);
        }
    }

    private void showNewerLine() {
        if (reading.shown != Reading.NONE_SHOWN) {
            showLine(reading.shown - 1);
        }
    }

    /** Line NONE_SHOWN, the one behind the latest, has no CODES. */
    private void showLine(int k) {
        reading.clear();
        int length = lines.length(k);
        for (int i = 0; i < length; i++) {
            reading.add(lines.code(k, i));
        }
        reading.shown = k;
    }

    private int endByKey(int code) {
        layDownCodes();
        lines.keep(reading);
        for (int i = 0; i < reading.count; i++) {
            echoed.add(reading.code(i));
        }
        echoed.add(ENTER);
        close(code);
        if (reading.parseAt == 0) {
            return 1;
        }
        int words = parser.run(reading.textAt, reading.parseAt, dictionaryAt, false);
        return words == OUTSIDE ? OUTSIDE : 1;
    }

    private void endByClock() {
        reading.clear();
        layDownCodes();
        close(0);
    }

    private void close(int code) {
        reading.open = false;
        ended = code;
    }

    private void layDownCodes() {
        int first = reading.textAt + (countsCodes() ? 2 : 1);
        for (int i = 0; i < reading.count; i++) {
            memory.setOctet(first + i, reading.code(i));
        }
        if (countsCodes()) {
            memory.setOctet(reading.textAt + 1, reading.count);
        } else {
            memory.setOctet(first + reading.count, 0);
        }
    }

    /** MEMORY: octets that are never asked for or changed beyond their row. */
    private static final class Memory {

        static final int SIZE = 4096;

        private final int[] octets = new int[SIZE];

        /** No octets at all are within MEMORY wherever they begin. */
        boolean holds(int from, int n) {
            return n <= 0 || from >= 0 && from <= SIZE - n;
        }

        int octet(int address) {
            return address >= 0 && address < SIZE ? octets[address] : 0;
        }

        void setOctet(int address, int value) {
            if (address >= 0 && address < SIZE) {
                octets[address] = value & 255;
            }
        }

        int pair(int address) {
            return octet(address) * 256 + octet(address + 1);
        }

        /** The n lowest octets of a value, the highest first. */
        void store(int address, int n, long value) {
            for (int i = 0; i < n; i++) {
                setOctet(address + i, (int) (value >>> 8 * (n - 1 - i)) & 255);
            }
        }

        /** Whether the n octets from an address on are those that store would write. */
        boolean stores(int address, int n, long value) {
            for (int i = 0; i < n; i++) {
                if (octet(address + i) != ((int) (value >>> 8 * (n - 1 - i)) & 255)) {
                    return false;
                }
            }
            return true;
        }
    }

    /** Makes PACKED words; one is a number whose octets, the highest first, are the word's. */
    private static final class Packer {

        private static final String ROW_OF_FIRST_VERSION = "0123456789.,!?_#'\"/\\<-:()";
        private static final String ROW_OF_LATER_VERSIONS = "\r0123456789.,!?_#'\"/\\-:()";
        private static final int FIRST_LETTER = 6;
        private static final int FIRST_OF_ROW = 7;
        private static final int ANY_CODE = 6;
        private static final int FILLER = 5;

        final int octets;
        private final Memory memory;
        private final String row;
        private final int up;
        private final int aside;
        private final int[] letters;
        private int used;

        Packer(Memory memory, int version) {
            this.memory = memory;
            this.row = version == 1 ? ROW_OF_FIRST_VERSION : ROW_OF_LATER_VERSIONS;
            this.up = version <= 2 ? 2 : 4;
            this.aside = version <= 2 ? 3 : 5;
            this.letters = new int[version <= 3 ? 6 : 9];
            this.octets = version <= 3 ? 4 : 6;
            this.used = 0;
        }

        long packed(int from, int n) {
            used = 0;
            for (int i = 0; i < n && used < letters.length; i++) {
                addCode(memory.octet(from + i));
            }
            for (int i = used; i < letters.length; i++) {
                letters[i] = FILLER;
            }
            long word = 0;
            for (int i = 0; i < letters.length; i++) {
                if (i % 3 == 0) {
                    word = word * 2 + (i == letters.length - 3 ? 1 : 0);
                }
                word = word * 32 + letters[i];
            }
            return word;
        }

        private void addCode(int code) {
            if (code == SPACE) {
                addLetter(0);
            } else if (code >= 'a' && code <= 'z') {
                addLetter(code - 'a' + FIRST_LETTER);
            } else if (code >= 'A' && code <= 'Z') {
                addLetter(up);
                addLetter(code - 'A' + FIRST_LETTER);
            } else {
                addLetter(aside);
                int place = row.indexOf((char) code);
                if (place >= 0) {
                    addLetter(place + FIRST_OF_ROW);
                } else {
                    addLetter(ANY_CODE);
                    addLetter(code / 32);
                    addLetter(code % 32);
                }
            }
        }

        private void addLetter(int letter) {
            if (used >= 0 && used < letters.length) {
                letters[used] = letter;
                used++;
            }
        }
    }

    /** A DICTIONARY as MEMORY has it at the moment when it is opened. */
    private static final class Dictionary {

        private final Memory memory;
        private final int wordOctets;
        private final boolean[] separators = new boolean[HIGHEST_CODE + 1];
        private int entriesAt;
        private int size;
        private int entries;

        Dictionary(Memory memory, int wordOctets) {
            this.memory = memory;
            this.wordOctets = wordOctets;
        }

        /** False: some of it is OUTSIDE. */
        boolean open(int d) {
            int n = memory.octet(d);
            if (!memory.holds(d, n + 4)) {
                return false;
            }
            size = memory.octet(d + n + 1);
            int signed = memory.pair(d + n + 2);
            entries = signed < 32768 ? signed : 65536 - signed;
            entriesAt = d + n + 4;
            markSeparators(d + 1, n);
            return entries == 0
                    || memory.holds(entriesAt, (entries - 1) * size + Math.max(size, wordOctets));
        }

        private void markSeparators(int from, int n) {
            for (int code = 0; code < separators.length; code++) {
                separators[code] = false;
            }
            for (int i = 0; i < n; i++) {
                int code = memory.octet(from + i);
                if (code >= 0 && code < separators.length) {
                    separators[code] = true;
                }
            }
        }

        boolean separates(int code) {
            return code >= 0 && code < separators.length && separators[code];
        }

        /** The address of a PACKED word's ENTRY; 0: it has none. */
        int entryOf(long word) {
            // ENTRIES of no octets all stand at one address: the first speaks for all.
            int different = size == 0 ? Math.min(entries, 1) : entries;
            for (int i = 0; i < different; i++) {
                int address = entriesAt + i * size;
                if (memory.stores(address, wordOctets, word)) {
                    return address;
                }
            }
            return 0;
        }
    }

    /** PARSES a TEXT; the WORDS that are told wait in rows until all have been looked up. */
    private static final class Parser {

        private static final int MOST_TOLD = 255;

        private final Memory memory;
        private final Packer packer;
        private final Dictionary dictionary;
        private final boolean counts;
        private final int[] starts = new int[MOST_TOLD];
        private final int[] lengths = new int[MOST_TOLD];
        private final int[] entries = new int[MOST_TOLD];
        private int words;
        private int textFrom;
        private int textEnd;

        Parser(Memory memory, Packer packer, Dictionary dictionary, boolean counts) {
            this.memory = memory;
            this.packer = packer;
            this.dictionary = dictionary;
            this.counts = counts;
        }

        int run(int t, int p, int d, boolean flag) {
            if (!findText(t) || !dictionary.open(d)) {
                return OUTSIDE;
            }
            splitText();
            int told = Math.min(words, Math.min(memory.octet(p), MOST_TOLD));
            if (!memory.holds(p, 2 + 4 * told)) {
                return OUTSIDE;
            }
            for (int i = 0; i < told; i++) {
                entries[i] = dictionary.entryOf(packer.packed(starts[i], lengths[i]));
            }
            memory.setOctet(p + 1, told);
            for (int i = 0; i < told; i++) {
                if (entries[i] != 0 || !flag) {
                    tellWord(i, p + 2 + 4 * i, t);
                }
            }
            return words;
        }

        private boolean findText(int t) {
            if (counts) {
                textFrom = t + 2;
                textEnd = textFrom + memory.octet(t + 1);
                return memory.holds(textFrom, textEnd - textFrom);
            }
            textFrom = t + 1;
            textEnd = textFrom;
            while (textEnd < Memory.SIZE && memory.octet(textEnd) != 0) {
                textEnd++;
            }
            return textEnd < Memory.SIZE;
        }

        private void splitText() {
            words = 0;
            int begun = textFrom;
            for (int i = textFrom; i < textEnd; i++) {
                int code = memory.octet(i);
                boolean separator = dictionary.separates(code);
                if (separator || code == SPACE) {
                    addWord(begun, i - begun);
                    begun = i + 1;
                }
                if (separator) {
                    addWord(i, 1);
                }
            }
            addWord(begun, textEnd - begun);
        }

        /** Counts every WORD, but remembers no more than can be told. */
        private void addWord(int start, int length) {
            if (length <= 0) {
                return;
            }
            if (words >= 0 && words < MOST_TOLD) {
                starts[words] = start;
                lengths[words] = length;
            }
            words++;
        }

        private void tellWord(int i, int address, int t) {
            if (i >= 0 && i < MOST_TOLD) {
                memory.store(address, 2, entries[i]);
                memory.setOctet(address + 2, lengths[i]);
                memory.setOctet(address + 3, starts[i] - t);
            }
        }
    }

    /** The READ that goes on, or the latest one, and its CODES. */
    private static final class Reading {

        static final int NONE_SHOWN = -1;

        boolean open;
        int textAt;
        int parseAt;
        int limit;
        int count;
        /** Which LINE is shown, the latest being 0. */
        int shown = NONE_SHOWN;
        private final int[] codes = new int[MOST_CODES];

        void start(int t, int p, int mostCodes) {
            open = true;
            textAt = t;
            parseAt = p;
            limit = mostCodes;
            count = 0;
            shown = NONE_SHOWN;
        }

        void add(int code) {
            if (count < limit && count >= 0 && count < codes.length) {
                codes[count] = code;
                count++;
            }
        }

        void dropLast() {
            if (count > 0) {
                count--;
            }
        }

        void clear() {
            count = 0;
        }

        int code(int i) {
            return i >= 0 && i < count && i < codes.length ? codes[i] : 0;
        }
    }

    /** THE CLOCK of the READ that goes on. */
    private static final class Clock {

        private static final int ANSWERS = 32;

        int calls;
        /** Whether the latest ticks ended with an answer of 1. */
        boolean stopped;
        private int every;
        private int answers;
        private int answered;
        private int sinceCall;

        void restart() {
            calls = 0;
            stopped = false;
            set(0, 0);
        }

        void set(int ticksBetweenCalls, int bits) {
            every = ticksBetweenCalls;
            answers = bits;
            answered = 0;
            sinceCall = 0;
        }

        /** How many calls come while so many ticks go by. */
        int pass(int ticks) {
            stopped = false;
            if (every <= 0) {
                return 0;
            }
            int gone = sinceCall + ticks;
            int due = gone / every;
            int stopping = callsUntilStop();
            stopped = stopping > 0 && stopping <= due;
            int came = stopped ? stopping : due;
            sinceCall = gone % every;
            // Behind the last bit all answers are 0, so how far behind it is no matter.
            answered = Math.min(answered + came, ANSWERS);
            calls += came;
            return came;
        }

        /** How many calls the first answer of 1 is away; 0: there is none. */
        private int callsUntilStop() {
            for (int i = answered; i < ANSWERS; i++) {
                if ((answers >>> i & 1) == 1) {
                    return i - answered + 1;
                }
            }
            return 0;
        }
    }

    /** The LINES that are kept, in a ring: the oldest gives its place to a new one. */
    private static final class Lines {

        private static final int MOST = 8;

        int count;
        private int latest;
        private final int[] lengths = new int[MOST];
        private final int[] codes = new int[MOST * MOST_CODES];

        void keep(Reading line) {
            if (line.count == 0) {
                return;
            }
            latest = (latest + 1) % MOST;
            count = Math.min(count + 1, MOST);
            if (latest >= 0 && latest < MOST) {
                lengths[latest] = line.count;
            }
            for (int i = 0; i < line.count; i++) {
                int place = latest * MOST_CODES + i;
                if (place >= 0 && place < codes.length) {
                    codes[place] = line.code(i);
                }
            }
        }

        /** How many CODES LINE k has, the latest being 0; 0: there is no such LINE. */
        int length(int k) {
            int slot = slotOf(k);
            return slot >= 0 && slot < MOST ? lengths[slot] : 0;
        }

        int code(int k, int i) {
            int place = slotOf(k) * MOST_CODES + i;
            return i >= 0 && i < length(k) && place >= 0 && place < codes.length ? codes[place] : 0;
        }

        private int slotOf(int k) {
            return k >= 0 && k < count ? (latest + MOST - k) % MOST : NO;
        }
    }

    /** THE ECHO: the latest CODES, in a ring. */
    private static final class Echo {

        private static final int MOST = 2000;

        int total;
        private final int[] codes = new int[MOST];

        void add(int code) {
            int place = total % MOST;
            if (place >= 0 && place < codes.length) {
                codes[place] = code;
                total++;
            }
        }

        boolean has(int i) {
            return i >= 0 && i < total && i >= total - MOST;
        }

        int code(int i) {
            int place = i % MOST;
            return place >= 0 && place < codes.length ? codes[place] : 0;
        }
    }

    /** The KEYS of the script, in a ring. */
    private static final class Script {

        private static final int MOST = 300;

        int count;
        private int first;
        private final int[] codes = new int[MOST];

        /** False: it is full. */
        boolean add(int code) {
            int place = (first + count) % MOST;
            if (count >= MOST || place < 0 || place >= codes.length) {
                return false;
            }
            codes[place] = code;
            count++;
            return true;
        }

        int takeFirst() {
            if (count <= 0 || first < 0 || first >= codes.length) {
                return 0;
            }
            int code = codes[first];
            first = (first + 1) % MOST;
            count--;
            return code;
        }
    }
}
