/** A builder of color palettes for small images. ../shared/DOC.md says what each method does. */
public final class PaletteBuilder {
    public static final int BAD = -2, STATE = -3, FULL = -4;
    public static final int NONE = -1;

    private static final int MAX_SIDE = 16;
    private static final int MAX_PIXELS = 256;
    private static final int MAX_ENTRIES = 16;
    private static final int MAX_COLOR = 16777215;
    private static final int MAX_CHANNEL = 255;
    private static final int CHANNELS = 3;
    private static final int BEYOND_DISTANCES = 1000000;

    private final Snapshot now;
    private final History history;
    private final Text text;
    private final Histogram histogram;
    private final Survey survey;
    private final MedianCut medianCut;
    private final Reducer reducer;
    private final Arranger arranger;
    private final Mapper mapper;
    private final Report report;

    public PaletteBuilder() {
        now = new Snapshot();
        history = new History();
        text = new Text();
        histogram = new Histogram(now);
        survey = new Survey(now);
        medianCut = new MedianCut(now, histogram);
        reducer = new Reducer(now, survey);
        arranger = new Arranger(now, survey);
        mapper = new Mapper(now);
        report = new Report(now);
    }

    // ---- image

    public int image(int width, int height) {
        if (!isWithin(width, 1, MAX_SIDE) || !isWithin(height, 1, MAX_SIDE)) {
            return BAD;
        }
        beginRemake();
        now.width = width;
        now.height = height;
        now.fillArea(0, 0, width, height, 0);
        return now.area();
    }

    public int paint(int x, int y, int width, int height, int color) {
        if (!now.contains(x, y) || !isWithin(color, NONE, MAX_COLOR)) {
            return BAD;
        }
        if (!isWithin(width, 1, now.width - x) || !isWithin(height, 1, now.height - y)) {
            return BAD;
        }
        beginRemake();
        now.fillArea(x, y, width, height, color);
        return width * height;
    }

    public int gradient(int from, int to, boolean vertical) {
        if (!isColor(from) || !isColor(to)) {
            return BAD;
        }
        beginRemake();
        int steps = vertical ? now.height : now.width;
        for (int step = 0; step < steps; step++) {
            int color = blend(from, to, step, steps);
            if (vertical) {
                now.fillArea(0, step, now.width, 1, color);
            } else {
                now.fillArea(step, 0, 1, now.height, color);
            }
        }
        return now.area();
    }

    public int noise(int seed, int amount) {
        if (seed < 0 || !isWithin(amount, 1, 64)) {
            return BAD;
        }
        beginRemake();
        now.addNoise(seed, amount);
        return now.opaquePixels();
    }

    public int pixel(int x, int y) {
        return now.contains(x, y) ? now.pixels[now.place(x, y)] : BAD;
    }

    public int colors() {
        histogram.collect();
        return histogram.size;
    }

    public int color(int k, int what) {
        if (k < 0 || !isWithin(what, 0, 1)) {
            return BAD;
        }
        histogram.collect();
        if (k >= histogram.size) {
            return NONE;
        }
        histogram.rank();
        return what == 0 ? histogram.rankedColor(k) : histogram.rankedNumber(k);
    }

    // ---- palette

    public int add(int color, boolean locked) {
        if (!isColor(color)) {
            return BAD;
        }
        if (now.size >= MAX_ENTRIES) {
            return FULL;
        }
        beginRemake();
        now.append(color, locked);
        return now.size - 1;
    }

    public int remove(int entry) {
        if (!now.hasEntry(entry)) {
            return BAD;
        }
        if (now.locked[entry]) {
            return STATE;
        }
        beginRemake();
        int color = now.palette[entry];
        now.dropEntry(entry);
        return color;
    }

    public int lock(int entry, boolean on) {
        if (!now.hasEntry(entry)) {
            return BAD;
        }
        history.record(now);
        int before = now.locked[entry] ? 1 : 0;
        now.locked[entry] = on;
        return before;
    }

    public int swap(int entry, int other) {
        if (!now.hasEntry(entry) || !now.hasEntry(other)) {
            return BAD;
        }
        history.record(now);
        int color = now.palette[entry];
        now.exchange(entry, other);
        return color;
    }

    public int setMetric(int metric) {
        if (!isWithin(metric, 0, 1)) {
            return BAD;
        }
        history.record(now);
        int before = now.metric;
        now.metric = metric;
        return before;
    }

    public int entry(int entry, int what) {
        if (!now.hasEntry(entry) || !isWithin(what, 0, 3)) {
            return BAD;
        }
        if (what == 0) {
            return now.palette[entry];
        }
        if (what == 1) {
            return now.locked[entry] ? 1 : 0;
        }
        if (what == 3) {
            return now.timesIndexed(entry);
        }
        survey.takeStock();
        return survey.numbers[entry];
    }

    public int nearest(int color) {
        return isColor(color) ? now.closestEntry(color) : BAD;
    }

    // ---- text

    public int type(int letter) {
        if (!isWithin(letter, 0, 127)) {
            return BAD;
        }
        return text.append(letter) ? text.length : FULL;
    }

    public int clearText() {
        int before = text.length;
        text.length = 0;
        return before;
    }

    public int fault() {
        return text.parse();
    }

    public int load() {
        if (text.parse() != NONE) {
            return STATE;
        }
        beginRemake();
        now.size = 0;
        for (int e = 0; e < text.entries; e++) {
            now.append(text.colors[e], text.locked[e]);
        }
        text.length = 0;
        return now.size;
    }

    // ---- building

    public int build(int n, int rule) {
        if (!isWithin(n, 1, MAX_ENTRIES) || !isWithin(rule, 0, 2)) {
            return BAD;
        }
        if (now.lockedEntries() > n) {
            return STATE;
        }
        beginRemake();
        now.keepLocked();
        medianCut.fill(n, rule);
        return now.size;
    }

    public int refine(int rounds) {
        if (!isWithin(rounds, 1, 20)) {
            return BAD;
        }
        if (now.size == 0) {
            return STATE;
        }
        beginRemake();
        for (int round = 0; round < rounds; round++) {
            if (!reducer.moveToMeans()) {
                return round;
            }
        }
        return rounds;
    }

    public int merge(int n) {
        if (!isWithin(n, 1, MAX_ENTRIES)) {
            return BAD;
        }
        beginRemake();
        reducer.mergeDownTo(n);
        return now.size;
    }

    public int sort(int order) {
        if (!isWithin(order, 0, 2)) {
            return BAD;
        }
        history.record(now);
        return arranger.arrange(order);
    }

    // ---- mapping

    public int map(int method, int strength) {
        if (!isWithin(method, 0, 3) || !isWithin(strength, 0, 64)) {
            return BAD;
        }
        if (now.size == 0) {
            return STATE;
        }
        history.record(now);
        if (method < 2) {
            mapper.assign(method == 0 ? 0 : strength);
        } else {
            mapper.diffuse(method);
        }
        now.mapped = true;
        return now.usedEntries();
    }

    public int index(int x, int y) {
        if (!now.contains(x, y)) {
            return BAD;
        }
        return now.mapped ? now.indices[now.place(x, y)] : STATE;
    }

    public int error() {
        return now.mapped ? report.totalError() : STATE;
    }

    public int worst() {
        return now.mapped ? report.worstPixel() : STATE;
    }

    public int meanError() {
        return now.mapped ? report.meanErrorBits() : STATE;
    }

    public int runs() {
        return now.mapped ? report.indexRuns() : STATE;
    }

    public int packed(int k) {
        if (k < NONE) {
            return BAD;
        }
        if (!now.mapped) {
            return STATE;
        }
        return k == NONE ? report.packedBytes() : report.packedByte(k);
    }

    // ---- what if

    public int bestError() {
        if (now.size == 0) {
            return now.opaquePixels() == 0 ? 0 : STATE;
        }
        survey.takeStock();
        return survey.bestTotal;
    }

    public int loss(int entry) {
        if (!now.hasEntry(entry)) {
            return BAD;
        }
        if (now.size == 1) {
            return STATE;
        }
        survey.takeStock();
        return survey.losses[entry];
    }

    public int cheapest() {
        if (now.size < 2) {
            return STATE;
        }
        survey.takeStock();
        return survey.cheapestEntry();
    }

    public int gain(int color) {
        if (!isColor(color)) {
            return BAD;
        }
        if (now.size == 0) {
            return STATE;
        }
        survey.takeStock();
        return survey.gainOf(color);
    }

    public int bestAddition() {
        if (now.size == 0) {
            return STATE;
        }
        histogram.collect();
        survey.takeStock();
        int best = NONE;
        int greatest = NONE;
        for (int k = 0; k < histogram.size; k++) {
            int gained = survey.gainOf(histogram.colors[k]);
            if (gained > greatest) {
                best = histogram.colors[k];
                greatest = gained;
            }
        }
        return best;
    }

    // ---- undo, counts, digest

    public int undo() {
        return history.restore(now) ? history.size : STATE;
    }

    public int count(int what) {
        switch (what) {
            case 0: return now.width;
            case 1: return now.height;
            case 2: return now.opaquePixels();
            case 3: return now.area() - now.opaquePixels();
            case 4: return now.size;
            case 5: return now.lockedEntries();
            case 6: return now.metric;
            case 7: return now.mapped ? 1 : 0;
            case 8: return history.size;
            case 9: return text.length;
            default: return BAD;
        }
    }

    public long digest() {
        long h = 77;
        for (int what = 0; what <= 9; what++) {
            h = mix(h, count(what));
        }
        h = mixAll(h, now.pixels, now.area());
        h = mixEntries(h);
        if (now.mapped) {
            h = mixAll(h, now.indices, now.area());
            h = mix(h, report.totalError());
            h = mix(h, report.worstPixel());
            h = mix(h, report.meanErrorBits());
            h = mix(h, report.indexRuns());
        }
        return mixAll(h, text.letters, text.length);
    }

    private long mixEntries(long start) {
        long h = start;
        survey.takeStock();
        for (int e = 0; e < now.size; e++) {
            h = mix(h, now.palette[e]);
            h = mix(h, now.locked[e] ? 1 : 0);
            h = mix(h, survey.numbers[e]);
            h = mix(h, now.timesIndexed(e));
        }
        return h;
    }

    private static long mixAll(long start, int[] values, int length) {
        long h = start;
        for (int i = 0; i < length && i < values.length; i++) {
            h = mix(h, values[i]);
        }
        return h;
    }

    private static long mix(long h, int value) {
        return 31 * h + value;
    }

    /** Begins a change after which the indices would no longer fit the image or the palette. */
    private void beginRemake() {
        history.record(now);
        now.mapped = false;
    }

    private static boolean isWithin(int value, int least, int greatest) {
        return value >= least && value <= greatest;
    }

    private static boolean isColor(int color) {
        return isWithin(color, 0, MAX_COLOR);
    }

    private static int channelOf(int color, int channel) {
        return (color >> (16 - 8 * channel)) & MAX_CHANNEL;
    }

    private static int colorOf(int red, int green, int blue) {
        return 65536 * red + 256 * green + blue;
    }

    private static int limited(int value) {
        return Math.max(0, Math.min(MAX_CHANNEL, value));
    }

    /** The color at one step of a gradient. */
    private static int blend(int from, int to, int step, int steps) {
        if (steps <= 1) {
            return from;
        }
        int color = 0;
        for (int c = 0; c < CHANNELS; c++) {
            int a = channelOf(from, c);
            color = 256 * color + a + (channelOf(to, c) - a) * step / (steps - 1);
        }
        return color;
    }

    /** The mean of so many values with this sum, as the document rounds it; 0 if there are none. */
    private static int mean(int sum, int number) {
        return number > 0 ? (2 * sum + number) / (2 * number) : 0;
    }

    /** Sorts keys that are all different, or whose equals need no order; a Shell sort. */
    private static void sortKeys(long[] keys, int from, int to) {
        if (from < 0 || to > keys.length) {
            return;
        }
        for (int gap = 121; gap > 0; gap = gap / 3) {
            for (int i = from + gap; i < to; i++) {
                long key = keys[i];
                int free = i;
                while (free - gap >= from && keys[free - gap] > key) {
                    keys[free] = keys[free - gap];
                    free = free - gap;
                }
                keys[free] = key;
            }
        }
    }

    /** A state, as undo() restores it: the image, the palette, the metric and the indices. */
    private static final class Snapshot {
        int width = 1;
        int height = 1;
        /** Row-major without gaps; NONE stands for a transparent pixel. */
        final int[] pixels = new int[MAX_PIXELS];
        int size = 0;
        final int[] palette = new int[MAX_ENTRIES];
        final boolean[] locked = new boolean[MAX_ENTRIES];
        int metric = 0;
        /** Whether there are indices; if not, what stands in their row means nothing. */
        boolean mapped = false;
        final int[] indices = new int[MAX_PIXELS];

        void copyFrom(Snapshot other) {
            width = other.width;
            height = other.height;
            size = other.size;
            metric = other.metric;
            mapped = other.mapped;
            System.arraycopy(other.pixels, 0, pixels, 0, MAX_PIXELS);
            System.arraycopy(other.indices, 0, indices, 0, MAX_PIXELS);
            System.arraycopy(other.palette, 0, palette, 0, MAX_ENTRIES);
            for (int e = 0; e < MAX_ENTRIES; e++) {
                locked[e] = other.locked[e];
            }
        }

        int area() {
            return width * height;
        }

        boolean contains(int x, int y) {
            return x >= 0 && x < width && y >= 0 && y < height;
        }

        int place(int x, int y) {
            return y * width + x;
        }

        boolean isOpaque(int p) {
            return pixels[p] != NONE;
        }

        int opaquePixels() {
            int number = 0;
            for (int p = 0; p < area(); p++) {
                if (isOpaque(p)) {
                    number++;
                }
            }
            return number;
        }

        void fillArea(int left, int top, int wide, int high, int color) {
            for (int y = top; y < top + high; y++) {
                for (int x = left; x < left + wide; x++) {
                    if (contains(x, y)) {
                        pixels[place(x, y)] = color;
                    }
                }
            }
        }

        void addNoise(int seed, int amount) {
            int span = 2 * amount + 1;
            if (span <= 0) {
                return;
            }
            long x = seed;
            for (int p = 0; p < area(); p++) {
                if (!isOpaque(p)) {
                    continue;
                }
                int color = 0;
                for (int c = 0; c < CHANNELS; c++) {
                    x = (1103515245L * x + 12345L) & 2147483647L;
                    int shift = (int) (x / 65536L) % span - amount;
                    color = 256 * color + limited(channelOf(pixels[p], c) + shift);
                }
                pixels[p] = color;
            }
        }

        boolean hasEntry(int entry) {
            return entry >= 0 && entry < size;
        }

        int lockedEntries() {
            int number = 0;
            for (int e = 0; e < size; e++) {
                if (locked[e]) {
                    number++;
                }
            }
            return number;
        }

        void append(int color, boolean isLocked) {
            if (size >= MAX_ENTRIES) {
                return;
            }
            palette[size] = color;
            locked[size] = isLocked;
            size++;
        }

        void dropEntry(int entry) {
            if (!hasEntry(entry)) {
                return;
            }
            for (int e = entry; e + 1 < size; e++) {
                palette[e] = palette[e + 1];
                locked[e] = locked[e + 1];
            }
            size--;
        }

        void keepLocked() {
            int before = size;
            size = 0;
            for (int e = 0; e < before; e++) {
                if (locked[e]) {
                    append(palette[e], true);
                }
            }
        }

        boolean isLockedColor(int color) {
            for (int e = 0; e < size; e++) {
                if (locked[e] && palette[e] == color) {
                    return true;
                }
            }
            return false;
        }

        void exchange(int one, int other) {
            if (!hasEntry(one) || !hasEntry(other)) {
                return;
            }
            int color = palette[one];
            palette[one] = palette[other];
            palette[other] = color;
            boolean wasLocked = locked[one];
            locked[one] = locked[other];
            locked[other] = wasLocked;
            for (int p = 0; p < area(); p++) {
                if (indices[p] == one) {
                    indices[p] = other;
                } else if (indices[p] == other) {
                    indices[p] = one;
                }
            }
        }

        /** The channels are taken apart right here, since every search spends its time in this. */
        int distance(int one, int other) {
            int r = (one >> 16) - (other >> 16);
            int g = ((one >> 8) & MAX_CHANNEL) - ((other >> 8) & MAX_CHANNEL);
            int b = (one & MAX_CHANNEL) - (other & MAX_CHANNEL);
            if (metric == 0) {
                return r * r + g * g + b * b;
            }
            return 2 * r * r + 4 * g * g + 3 * b * b;
        }

        /** The nearest entry of a color, or NONE if the palette is empty. */
        int closestEntry(int color) {
            int closest = NONE;
            int least = BEYOND_DISTANCES;
            for (int e = 0; e < size; e++) {
                int distance = distance(color, palette[e]);
                if (distance < least) {
                    closest = e;
                    least = distance;
                }
            }
            return closest;
        }

        int timesIndexed(int entry) {
            int number = 0;
            for (int p = 0; mapped && p < area(); p++) {
                if (indices[p] == entry) {
                    number++;
                }
            }
            return number;
        }

        int usedEntries() {
            int number = 0;
            for (int e = 0; e < size; e++) {
                if (timesIndexed(e) > 0) {
                    number++;
                }
            }
            return number;
        }

        /** How far the indexed image is off at an opaque pixel. */
        int errorAt(int p) {
            return hasEntry(indices[p]) ? distance(pixels[p], palette[indices[p]]) : 0;
        }
    }

    /** The states before the latest changes, in a ring that is used again. */
    private static final class History {
        private static final int LIMIT = 10;

        private final Snapshot[] states = new Snapshot[LIMIT];
        private int oldest = 0;
        int size = 0;

        History() {
            for (int i = 0; i < LIMIT; i++) {
                states[i] = new Snapshot();
            }
        }

        void record(Snapshot state) {
            // When the ring is full, this place is that of the oldest state, which is dropped.
            states[(oldest + size) % LIMIT].copyFrom(state);
            if (size < LIMIT) {
                size++;
            } else {
                oldest = (oldest + 1) % LIMIT;
            }
        }

        boolean restore(Snapshot state) {
            if (size == 0) {
                return false;
            }
            size--;
            state.copyFrom(states[(oldest + size) % LIMIT]);
            return true;
        }
    }

    /** The text, and the palette that is read from it. */
    private static final class Text {
        private static final int LIMIT = 140;
        private static final int MAX_DIGITS = 6;

        final int[] letters = new int[LIMIT];
        int length = 0;
        final int[] colors = new int[MAX_ENTRIES];
        final boolean[] locked = new boolean[MAX_ENTRIES];
        int entries = 0;

        boolean append(int letter) {
            if (length >= LIMIT) {
                return false;
            }
            letters[length] = letter;
            length++;
            return true;
        }

        /** Reads the entries up to the first fault; returns its index, or NONE. */
        int parse() {
            entries = 0;
            int at = 0;
            while (at < length) {
                int letter = letters[at];
                at++;
                if (letter == ' ' || letter == ',') {
                    continue;
                }
                if (letter != '#' || entries >= MAX_ENTRIES) {
                    return at - 1;
                }
                int digits = digitsFrom(at);
                if (digits != 3 && digits != MAX_DIGITS) {
                    return at + digits;
                }
                colors[entries] = digits == 3 ? shortColor(at) : longColor(at);
                at += digits;
                locked[entries] = at < length && letters[at] == '!';
                if (locked[entries]) {
                    at++;
                }
                entries++;
            }
            return NONE;
        }

        private int digitsFrom(int start) {
            int digits = 0;
            while (digits < MAX_DIGITS && digitAt(start + digits) != NONE) {
                digits++;
            }
            return digits;
        }

        private int shortColor(int start) {
            return colorOf(17 * digitAt(start), 17 * digitAt(start + 1), 17 * digitAt(start + 2));
        }

        private int longColor(int start) {
            int color = 0;
            for (int i = 0; i < MAX_DIGITS; i++) {
                color = 16 * color + digitAt(start + i);
            }
            return color;
        }

        /** The value of the hexadecimal digit at a place; NONE if there is none. */
        private int digitAt(int at) {
            if (at < 0 || at >= length) {
                return NONE;
            }
            int letter = letters[at];
            if (letter >= '0' && letter <= '9') {
                return letter - '0';
            }
            if (letter >= 'a' && letter <= 'f') {
                return letter - 'a' + 10;
            }
            return letter >= 'A' && letter <= 'F' ? letter - 'A' + 10 : NONE;
        }
    }

    /** The different colors of the opaque pixels, with their numbers of pixels. */
    private static final class Histogram {
        private static final long COLOR_UNIT = 16777216L;

        private final Snapshot state;
        private final long[] keys = new long[MAX_PIXELS];
        /** By ascending colors. */
        final int[] colors = new int[MAX_PIXELS];
        final int[] numbers = new int[MAX_PIXELS];
        int size = 0;

        Histogram(Snapshot state) {
            this.state = state;
        }

        void collect() {
            int opaque = 0;
            for (int p = 0; p < state.area(); p++) {
                if (state.isOpaque(p)) {
                    keys[opaque] = state.pixels[p];
                    opaque++;
                }
            }
            sortKeys(keys, 0, opaque);
            size = 0;
            for (int i = 0; i < opaque; i++) {
                int color = (int) keys[i];
                if (size > 0 && colors[size - 1] == color) {
                    numbers[size - 1]++;
                } else {
                    colors[size] = color;
                    numbers[size] = 1;
                    size++;
                }
            }
        }

        /** Orders the collected colors by descending numbers, then by ascending colors. */
        void rank() {
            for (int k = 0; k < size; k++) {
                keys[k] = (MAX_PIXELS - numbers[k]) * COLOR_UNIT + colors[k];
            }
            sortKeys(keys, 0, size);
        }

        int rankedColor(int k) {
            return k >= 0 && k < size ? (int) (keys[k] % COLOR_UNIT) : NONE;
        }

        int rankedNumber(int k) {
            return k >= 0 && k < size ? MAX_PIXELS - (int) (keys[k] / COLOR_UNIT) : NONE;
        }
    }

    /** What the palette means to the image: nearest entries, best error, losses and gains. */
    private static final class Survey {
        private final Snapshot state;
        /** The nearest entry of each opaque pixel, and its distance; NONE for transparent ones. */
        final int[] closest = new int[MAX_PIXELS];
        private final int[] least = new int[MAX_PIXELS];
        /** For each entry, the number of opaque pixels whose nearest one it is. */
        final int[] numbers = new int[MAX_ENTRIES];
        final int[] losses = new int[MAX_ENTRIES];
        int bestTotal = 0;

        Survey(Snapshot state) {
            this.state = state;
        }

        void takeStock() {
            bestTotal = 0;
            for (int e = 0; e < MAX_ENTRIES; e++) {
                numbers[e] = 0;
                losses[e] = 0;
            }
            for (int p = 0; p < state.area(); p++) {
                closest[p] = NONE;
                least[p] = 0;
                if (state.isOpaque(p) && state.size > 0) {
                    look(p);
                }
            }
        }

        private void look(int p) {
            int color = state.pixels[p];
            int best = 0;
            int first = state.distance(color, state.palette[0]);
            int second = BEYOND_DISTANCES;
            for (int e = 1; e < state.size; e++) {
                int distance = state.distance(color, state.palette[e]);
                if (distance < first) {
                    second = first;
                    first = distance;
                    best = e;
                } else if (distance < second) {
                    second = distance;
                }
            }
            closest[p] = best;
            least[p] = first;
            numbers[best]++;
            bestTotal += first;
            if (state.size > 1) {
                // Without its nearest entry, a pixel falls to the second one.
                losses[best] += second - first;
            }
        }

        int cheapestEntry() {
            int cheapest = NONE;
            for (int e = 0; e < state.size; e++) {
                if (state.locked[e]) {
                    continue;
                }
                if (cheapest == NONE || losses[e] < losses[cheapest]) {
                    cheapest = e;
                }
            }
            return cheapest;
        }

        int gainOf(int color) {
            int gained = 0;
            for (int p = 0; p < state.area(); p++) {
                if (state.isOpaque(p)) {
                    gained += Math.max(0, least[p] - state.distance(state.pixels[p], color));
                }
            }
            return gained;
        }
    }

    /** Median cut: each box is a stretch of one row of cells, so that splitting copies nothing. */
    private static final class MedianCut {
        /** A cell is CELL_UNIT * color + its number of pixels, so that one sort moves both. */
        private static final long CELL_UNIT = 512L;
        private static final long CHANNEL_UNIT = 512L * 16777216L;

        private final Snapshot state;
        private final Histogram histogram;
        private final long[] cells = new long[MAX_PIXELS];
        private final int[] starts = new int[MAX_ENTRIES];
        private final int[] ends = new int[MAX_ENTRIES];
        private int boxes = 0;

        MedianCut(Snapshot state, Histogram histogram) {
            this.state = state;
            this.histogram = histogram;
        }

        /** Adds entries to the locked ones until there are n, or no box can be split. */
        void fill(int n, int rule) {
            int most = Math.min(n - state.size, MAX_ENTRIES);
            makeFirstBox(most);
            for (int made = boxes; made < most; made++) {
                int box = chooseBox(rule);
                if (box == NONE) {
                    break;
                }
                split(box);
            }
            for (int box = 0; box < boxes; box++) {
                state.append(meanColor(box), false);
            }
        }

        private void makeFirstBox(int most) {
            boxes = 0;
            histogram.collect();
            int used = 0;
            for (int k = 0; k < histogram.size; k++) {
                if (!state.isLockedColor(histogram.colors[k])) {
                    cells[used] = CELL_UNIT * histogram.colors[k] + histogram.numbers[k];
                    used++;
                }
            }
            if (used > 0 && most > 0) {
                starts[0] = 0;
                ends[0] = used;
                boxes = 1;
            }
        }

        private static int cellColor(long cell) {
            return (int) (cell / CELL_UNIT);
        }

        private static int cellNumber(long cell) {
            return (int) (cell % CELL_UNIT);
        }

        /** The box to be split next, or NONE if each one has a single color. */
        private int chooseBox(int rule) {
            int chosen = NONE;
            long greatest = 0;
            for (int box = 0; box < boxes; box++) {
                if (ends[box] - starts[box] < 2) {
                    continue;
                }
                long measure = measure(box, rule);
                if (chosen == NONE || measure > greatest) {
                    chosen = box;
                    greatest = measure;
                }
            }
            return chosen;
        }

        private long measure(int box, int rule) {
            if (rule == 0) {
                return pixelsIn(box);
            }
            if (rule == 1) {
                return range(box, widestChannel(box));
            }
            return spread(box, 0) + spread(box, 1) + spread(box, 2);
        }

        private int pixelsIn(int box) {
            int number = 0;
            for (int i = starts[box]; i < ends[box]; i++) {
                number += cellNumber(cells[i]);
            }
            return number;
        }

        private int range(int box, int channel) {
            int least = MAX_CHANNEL;
            int greatest = 0;
            for (int i = starts[box]; i < ends[box]; i++) {
                int value = channelOf(cellColor(cells[i]), channel);
                least = Math.min(least, value);
                greatest = Math.max(greatest, value);
            }
            return greatest - least;
        }

        private int widestChannel(int box) {
            int widest = 0;
            for (int c = 1; c < CHANNELS; c++) {
                if (range(box, c) > range(box, widest)) {
                    widest = c;
                }
            }
            return widest;
        }

        private int sum(int box, int channel) {
            int sum = 0;
            for (int i = starts[box]; i < ends[box]; i++) {
                sum += cellNumber(cells[i]) * channelOf(cellColor(cells[i]), channel);
            }
            return sum;
        }

        private long spread(int box, int channel) {
            long squares = 0;
            for (int i = starts[box]; i < ends[box]; i++) {
                long value = channelOf(cellColor(cells[i]), channel);
                squares += cellNumber(cells[i]) * value * value;
            }
            long sum = sum(box, channel);
            return pixelsIn(box) * squares - sum * sum;
        }

        private int meanColor(int box) {
            int number = pixelsIn(box);
            return colorOf(mean(sum(box, 0), number), mean(sum(box, 1), number), mean(sum(box, 2), number));
        }

        private void split(int box) {
            if (boxes >= MAX_ENTRIES) {
                return;
            }
            order(box, widestChannel(box));
            int middle = middleOf(box);
            starts[boxes] = middle;
            ends[boxes] = ends[box];
            ends[box] = middle;
            boxes++;
        }

        private void order(int box, int channel) {
            for (int i = starts[box]; i < ends[box]; i++) {
                cells[i] += CHANNEL_UNIT * channelOf(cellColor(cells[i]), channel);
            }
            sortKeys(cells, starts[box], ends[box]);
            for (int i = starts[box]; i < ends[box]; i++) {
                cells[i] = cells[i] % CHANNEL_UNIT;
            }
        }

        /** Where the upper part of an ordered box begins. */
        private int middleOf(int box) {
            int all = pixelsIn(box);
            int lower = 0;
            int middle = starts[box];
            while (middle < ends[box] - 1 && 2 * lower < all) {
                lower += cellNumber(cells[middle]);
                middle++;
            }
            return middle;
        }
    }

    /** Moves entries to the means of their pixels, and merges entries. */
    private static final class Reducer {
        private final Snapshot state;
        private final Survey survey;
        private final int[] sums = new int[CHANNELS * MAX_ENTRIES];
        private int first = 0;
        private int second = 0;

        Reducer(Snapshot state, Survey survey) {
            this.state = state;
            this.survey = survey;
        }

        /** One round of refine(); tells whether it changed an entry. */
        boolean moveToMeans() {
            survey.takeStock();
            sumChannels();
            boolean changed = false;
            for (int e = 0; e < state.size; e++) {
                int number = survey.numbers[e];
                if (state.locked[e] || number == 0) {
                    continue;
                }
                int at = CHANNELS * e;
                int color = colorOf(mean(sums[at], number), mean(sums[at + 1], number), mean(sums[at + 2], number));
                changed = changed || color != state.palette[e];
                state.palette[e] = color;
            }
            return changed;
        }

        private void sumChannels() {
            for (int i = 0; i < sums.length; i++) {
                sums[i] = 0;
            }
            for (int p = 0; p < state.area(); p++) {
                int e = survey.closest[p];
                if (!state.hasEntry(e)) {
                    continue;
                }
                for (int c = 0; c < CHANNELS; c++) {
                    sums[CHANNELS * e + c] += channelOf(state.pixels[p], c);
                }
            }
        }

        void mergeDownTo(int n) {
            for (int step = 0; step < MAX_ENTRIES && state.size > n; step++) {
                survey.takeStock();
                if (!findCheapestPair()) {
                    return;
                }
                joinPair();
            }
        }

        private boolean findCheapestPair() {
            boolean found = false;
            long least = 0;
            for (int i = 0; i < state.size; i++) {
                for (int j = i + 1; j < state.size; j++) {
                    if (state.locked[i] && state.locked[j]) {
                        continue;
                    }
                    long cost = cost(i, j);
                    if (!found || cost < least) {
                        found = true;
                        least = cost;
                        first = i;
                        second = j;
                    }
                }
            }
            return found;
        }

        private long cost(int i, int j) {
            long both = survey.numbers[i] + survey.numbers[j];
            if (both <= 0) {
                return 0;
            }
            long product = (long) survey.numbers[i] * survey.numbers[j];
            return product * state.distance(state.palette[i], state.palette[j]) / both;
        }

        private void joinPair() {
            if (!state.hasEntry(first) || !state.hasEntry(second)) {
                return;
            }
            if (state.locked[second]) {
                state.palette[first] = state.palette[second];
                state.locked[first] = true;
            } else if (!state.locked[first] && survey.numbers[first] + survey.numbers[second] > 0) {
                state.palette[first] = mixedColor();
            }
            state.dropEntry(second);
        }

        private int mixedColor() {
            int p = survey.numbers[first];
            int q = survey.numbers[second];
            int color = 0;
            for (int c = 0; c < CHANNELS; c++) {
                int a = channelOf(state.palette[first], c);
                int b = channelOf(state.palette[second], c);
                color = 256 * color + mean(p * a + q * b, p + q);
            }
            return color;
        }
    }

    /** Sorts the entries that are not locked. */
    private static final class Arranger {
        private final Snapshot state;
        private final Survey survey;
        private final int[] newNumbers = new int[MAX_ENTRIES];
        private final int[] oldColors = new int[MAX_ENTRIES];

        Arranger(Snapshot state, Survey survey) {
            this.state = state;
            this.survey = survey;
        }

        /** Returns how many entries have another number than before. */
        int arrange(int order) {
            survey.takeStock();
            for (int e = 0; e < state.size; e++) {
                newNumbers[e] = state.locked[e] ? e : NONE;
            }
            int before = NONE;
            for (int number = 0; number < state.size; number++) {
                if (state.locked[number]) {
                    continue;
                }
                before = chooseNext(order, before);
                if (before != NONE) {
                    newNumbers[before] = number;
                }
            }
            renumberIndices();
            return moveColors();
        }

        /** The entry that follows; of equal ones the first, so that they keep their order. */
        private int chooseNext(int order, int before) {
            int chosen = NONE;
            int least = 0;
            for (int e = 0; e < state.size; e++) {
                if (newNumbers[e] != NONE) {
                    continue;
                }
                int rank = rankOf(e, order, before);
                if (chosen == NONE || rank < least) {
                    chosen = e;
                    least = rank;
                }
            }
            return chosen;
        }

        private int rankOf(int e, int order, int before) {
            int color = state.palette[e];
            if (order == 0) {
                return 2 * channelOf(color, 0) + 5 * channelOf(color, 1) + channelOf(color, 2);
            }
            if (order == 1) {
                return -survey.numbers[e];
            }
            return state.hasEntry(before) ? state.distance(color, state.palette[before]) : color;
        }

        private void renumberIndices() {
            for (int p = 0; p < state.area(); p++) {
                int e = state.indices[p];
                if (state.hasEntry(e)) {
                    state.indices[p] = newNumbers[e];
                }
            }
        }

        private int moveColors() {
            System.arraycopy(state.palette, 0, oldColors, 0, MAX_ENTRIES);
            int moved = 0;
            for (int e = 0; e < state.size; e++) {
                int number = newNumbers[e];
                if (number != e && state.hasEntry(number)) {
                    state.palette[number] = oldColors[e];
                    moved++;
                }
            }
            return moved;
        }
    }

    /** Gives the pixels their indices. */
    private static final class Mapper {
        private static final int[] MATRIX = {0, 8, 2, 10, 12, 4, 14, 6, 3, 11, 1, 9, 15, 7, 13, 5};

        private final Snapshot state;
        private final int[] sums = new int[CHANNELS * MAX_PIXELS];

        Mapper(Snapshot state) {
            this.state = state;
        }

        /** Ordered dithering; with strength 0 it is the plain method. */
        void assign(int strength) {
            for (int y = 0; y < state.height; y++) {
                for (int x = 0; x < state.width; x++) {
                    int p = state.place(x, y);
                    int shift = (2 * MATRIX[4 * (y & 3) + (x & 3)] - 15) * strength / 16;
                    state.indices[p] = state.isOpaque(p)
                            ? state.closestEntry(shifted(state.pixels[p], shift)) : state.size;
                }
            }
        }

        private static int shifted(int color, int shift) {
            return colorOf(limited(channelOf(color, 0) + shift), limited(channelOf(color, 1) + shift),
                    limited(channelOf(color, 2) + shift));
        }

        void diffuse(int method) {
            for (int p = 0; p < state.area(); p++) {
                for (int c = 0; c < CHANNELS; c++) {
                    sums[CHANNELS * p + c] = 16 * channelOf(state.pixels[p], c);
                }
            }
            for (int y = 0; y < state.height; y++) {
                boolean rightward = (y & 1) == 0;
                for (int step = 0; step < state.width; step++) {
                    visit(rightward ? step : state.width - 1 - step, y, rightward ? 1 : -1, method);
                }
            }
        }

        private void visit(int x, int y, int ahead, int method) {
            int p = state.place(x, y);
            if (!state.isOpaque(p)) {
                state.indices[p] = state.size;
                return;
            }
            int wanted = colorOf(wantedValue(p, 0), wantedValue(p, 1), wantedValue(p, 2));
            int chosen = state.closestEntry(wanted);
            state.indices[p] = chosen;
            if (!state.hasEntry(chosen)) {
                return;
            }
            for (int c = 0; c < CHANNELS; c++) {
                int error = sums[CHANNELS * p + c] - 16 * channelOf(state.palette[chosen], c);
                if (method == 2) {
                    spreadInFour(x, y, ahead, c, error);
                } else {
                    spreadInSix(x, y, ahead, c, error);
                }
            }
        }

        private int wantedValue(int p, int channel) {
            return limited(Math.floorDiv(sums[CHANNELS * p + channel] + 8, 16));
        }

        private void spreadInFour(int x, int y, int ahead, int channel, int error) {
            int a = Math.floorDiv(7 * error, 16);
            int b = Math.floorDiv(3 * error, 16);
            int c = Math.floorDiv(5 * error, 16);
            give(x + ahead, y, channel, a);
            give(x - ahead, y + 1, channel, b);
            give(x, y + 1, channel, c);
            give(x + ahead, y + 1, channel, error - a - b - c);
        }

        private void spreadInSix(int x, int y, int ahead, int channel, int error) {
            int part = Math.floorDiv(error, 8);
            give(x + ahead, y, channel, part);
            give(x + 2 * ahead, y, channel, part);
            give(x - 1, y + 1, channel, part);
            give(x, y + 1, channel, part);
            give(x + 1, y + 1, channel, part);
            give(x, y + 2, channel, part);
        }

        /** What goes to a transparent pixel is lost, too, since its sums are never read. */
        private void give(int x, int y, int channel, int part) {
            if (state.contains(x, y)) {
                sums[CHANNELS * state.place(x, y) + channel] += part;
            }
        }
    }

    /** What can be told of the indexed image; asked only while there are indices. */
    private static final class Report {
        private final Snapshot state;

        Report(Snapshot state) {
            this.state = state;
        }

        int totalError() {
            int total = 0;
            for (int p = 0; p < state.area(); p++) {
                if (state.isOpaque(p)) {
                    total += state.errorAt(p);
                }
            }
            return total;
        }

        int worstPixel() {
            int worst = NONE;
            int greatest = NONE;
            for (int y = 0; y < state.height; y++) {
                for (int x = 0; x < state.width; x++) {
                    int p = state.place(x, y);
                    if (state.isOpaque(p) && state.errorAt(p) > greatest) {
                        worst = MAX_SIDE * y + x;
                        greatest = state.errorAt(p);
                    }
                }
            }
            return worst;
        }

        int meanErrorBits() {
            int opaque = state.opaquePixels();
            return opaque > 0 ? bitsOf((float) totalError() / (float) opaque) : NONE;
        }

        /** The bits of a float from 0 to below 2^24; doubling it until it is whole loses nothing. */
        private static int bitsOf(float value) {
            if (value <= 0f) {
                return 0;
            }
            float significand = value;
            int exponent = 127 + 23;
            while (exponent > 1 && significand < 8388608f) {
                significand = significand * 2f;
                exponent--;
            }
            return (exponent << 23) + ((int) significand - 8388608);
        }

        int indexRuns() {
            int runs = 1;
            for (int p = 1; p < state.area(); p++) {
                if (state.indices[p] != state.indices[p - 1]) {
                    runs++;
                }
            }
            return runs;
        }

        private int bitsPerIndex() {
            int greatest = 0;
            for (int p = 0; p < state.area(); p++) {
                greatest = Math.max(greatest, state.indices[p]);
            }
            if (greatest < 2) {
                return 1;
            }
            if (greatest < 4) {
                return 2;
            }
            return greatest < 16 ? 4 : 8;
        }

        private int bytesPerRow(int bits) {
            return (state.width * bits + 7) / 8;
        }

        int packedBytes() {
            return bytesPerRow(bitsPerIndex()) * state.height;
        }

        int packedByte(int k) {
            int bits = bitsPerIndex();
            int rowBytes = bytesPerRow(bits);
            if (k < 0 || bits <= 0 || rowBytes <= 0 || k >= rowBytes * state.height) {
                return NONE;
            }
            int y = k / rowBytes;
            int firstX = k % rowBytes * 8 / bits;
            int packed = 0;
            for (int i = 0; i < 8 / bits; i++) {
                int x = firstX + i;
                int value = state.contains(x, y) ? state.indices[state.place(x, y)] : 0;
                packed = (packed << bits) + value;
            }
            return packed;
        }
    }
}
