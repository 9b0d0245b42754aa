import java.util.Arrays;

/** Small pictures packed without loss into a stream of which any beginning gives a picture. */
public final class WaveletStream {
    /** There is none. */
    public static final int NONE = -100000;

    private static final int SIDE = 8;
    private static final int MIDDLE = 128;
    private static final int BRIGHTEST = 255;
    private static final int MOST_LEVELS = 3;
    private static final int MOST_LAYERS = 3;
    private static final int MOST_BANDS = 10;
    private static final int MOST_PLANES = 12;
    private static final int MOST_PASSES = 34;
    private static final int HEADER = 4;
    private static final int FIRST_WIDTH_OF_LENGTHS = 3;
    // Far above the longest stream, and the most bits told, that 64 numbers can give.
    private static final int ROOM = 1024;
    // The least size in the coder's table is 1: so many doublings bring it to 8000 in hexadecimal.
    private static final int MOST_DOUBLINGS = 15;

    private final Picture drawn = new Picture();
    private final Picture restored = new Picture();
    private final ByteRow packets = new ByteRow();
    private final Packer packer = new Packer();
    private final Unpacker unpacker = new Unpacker();

    public WaveletStream() {
        drawn.begin(1, 1);
    }

    public void picture(int width, int height) throws IllegalArgumentException {
        if (!isSide(width) || !isSide(height)) {
            throw new IllegalArgumentException("a side is 1 to 8");
        }
        drawn.begin(width, height);
    }

    public void paint(int x, int y, int v) throws IllegalArgumentException {
        if (!drawn.has(x, y) || v < 0 || v > BRIGHTEST) {
            throw new IllegalArgumentException("no such pixel, or not 0 to 255");
        }
        drawn.set(x, y, v);
    }

    public int pixel(int x, int y) {
        return drawn.at(x, y);
    }

    public int encode(int levels, int layers) throws IllegalArgumentException {
        if (!areLevels(levels) || !areLayers(layers)) {
            throw new IllegalArgumentException("levels are 0 to 3, layers 1 to 3");
        }
        packer.pack(drawn, levels, layers, packets);
        return packets.length();
    }

    public int stream(int i) {
        return packets.has(i) ? packets.at(i) : NONE;
    }

    public boolean poke(int i, int b) {
        if (!packets.has(i) || b < 0 || b > 0xff) {
            return false;
        }
        packets.set(i, b);
        return true;
    }

    public int band(int b, int what) {
        return packer.about(b, what);
    }

    public int number(int b, int x, int y) {
        return packer.numberOf(b, x, y);
    }

    public int codeword(int b, int i) {
        return packer.codeByte(b, i);
    }

    public int least(int b, int passes) {
        return packer.leastLength(b, passes);
    }

    public int decode(int n) throws IllegalArgumentException {
        if (n < HEADER || n > packets.length()) {
            throw new IllegalArgumentException("there are not so many bytes, or too few");
        }
        int whole = unpacker.takePackets(packets, n);
        if (whole < 0) {
            throw new IllegalArgumentException("the stream is malformed");
        }
        unpacker.restore(packets, restored);
        return whole;
    }

    public int decoded(int x, int y) {
        return restored.at(x, y);
    }

    public int taken(int b) {
        return unpacker.passesTaken(b);
    }

    public int difference() {
        return drawn.greatestDifference(restored);
    }

    private static boolean isSide(int n) {
        return n >= 1 && n <= SIDE;
    }

    private static boolean areLevels(int n) {
        return n >= 0 && n <= MOST_LEVELS;
    }

    private static boolean areLayers(int n) {
        return n >= 1 && n <= MOST_LAYERS;
    }

    private static int firstBandOf(int resolution) {
        return resolution == 0 ? 0 : 3 * resolution - 2;
    }

    private static int lastBandOf(int resolution) {
        return 3 * resolution;
    }

    private static int passesOf(int planes) {
        return planes == 0 ? 0 : 3 * planes - 2;
    }

    /** How many bits n has, n not below 0; less one it is the logarithm to 2, rounded down. */
    private static int bitsOf(int n) {
        return 32 - Integer.numberOfLeadingZeros(n);
    }

    /** Pixels in columns and rows; without width and height there is no picture. */
    private static final class Picture {
        private final int[] pixels = new int[SIDE * SIDE];
        private int width;
        private int height;

        void begin(int newWidth, int newHeight) {
            width = newWidth;
            height = newHeight;
            Arrays.fill(pixels, 0);
        }

        boolean has(int x, int y) {
            return x >= 0 && x < width && y >= 0 && y < height;
        }

        int at(int x, int y) {
            return has(x, y) ? pixels[y * SIDE + x] : NONE;
        }

        void set(int x, int y, int v) {
            if (has(x, y)) {
                pixels[y * SIDE + x] = v;
            }
        }

        int greatestDifference(Picture other) {
            if (width != other.width || height != other.height) {
                return NONE;
            }
            int greatest = 0;
            for (int i = 0; i < pixels.length; i++) {
                greatest = Math.max(greatest, Math.abs(pixels[i] - other.pixels[i]));
            }
            return greatest;
        }
    }

    /** A row of bytes, to which bits can be put, and from which bits can be taken. */
    private static final class ByteRow {
        private static final int LACKING = -1;
        private static final int MANY = 1 << 20;

        private final int[] bytes = new int[ROOM];
        private int length;
        private int freeBits;
        private int nextBit;
        private int endBit;

        void clear() {
            length = 0;
            freeBits = 0;
        }

        int length() {
            return length;
        }

        boolean has(int i) {
            return i >= 0 && i < length;
        }

        /** A byte, or what stands behind the last one. */
        int at(int i) {
            return i >= 0 && i < length ? bytes[i] : 0xff;
        }

        void set(int i, int b) {
            if (has(i)) {
                bytes[i] = b;
            }
        }

        void add(int b) {
            if (length < bytes.length) {
                bytes[length] = b;
                length++;
            }
            freeBits = 0;
        }

        void addFrom(ByteRow other, int start, int count) {
            for (int i = 0; i < count; i++) {
                add(other.at(start + i));
            }
        }

        /** Puts the lowest bits of a value, the higher first, behind the bits put last, or into a new byte. */
        void putBits(int value, int count) {
            for (int k = count - 1; k >= 0; k--) {
                if (freeBits == 0) {
                    add(0);
                    freeBits = 8;
                }
                freeBits--;
                set(length - 1, at(length - 1) | ((value >> k) & 1) << freeBits);
            }
        }

        /** What is put from here on begins a new byte. */
        void endBits() {
            freeBits = 0;
        }

        void takeFrom(int startByte, int endByte) {
            nextBit = 8 * startByte;
            endBit = 8 * endByte;
        }

        /** The byte behind the one of which a bit was taken last. */
        int byteBehindBits() {
            return (nextBit + 7) / 8;
        }

        /** So many bits as a value, MANY for all above; LACKING when they do not all lie before the end. */
        int takeBits(int count) {
            if (count > endBit - nextBit) {
                return LACKING;
            }
            int value = 0;
            for (int k = 0; k < count; k++) {
                int bit = at(nextBit >> 3) >> (7 - (nextBit & 7)) & 1;
                value = Math.min(2 * value + bit, MANY);
                nextBit++;
            }
            return value;
        }
    }

    /** The numbers of a picture in bands: where each band lies among them, and the wavelet there and back. */
    private static final class Bands {
        private static final int LOW_OR_LH = 0;
        private static final int HL = 1;
        private static final int HH = 2;

        private final int[] numbers = new int[SIDE * SIDE];
        private final int[] left = new int[MOST_BANDS];
        private final int[] top = new int[MOST_BANDS];
        private final int[] wide = new int[MOST_BANDS];
        private final int[] high = new int[MOST_BANDS];
        private final int[] from = new int[SIDE];
        private final int[] to = new int[SIDE];
        private int width;
        private int height;
        private int levels;
        private int count;

        void lay(int newWidth, int newHeight, int newLevels) {
            width = newWidth;
            height = newHeight;
            levels = newLevels;
            count = 3 * levels + 1;
            for (int level = 1; level <= levels; level++) {
                int b = 3 * (levels - level) + 1;
                int outerWide = sideAfter(width, level - 1);
                int outerHigh = sideAfter(height, level - 1);
                int lowWide = sideAfter(width, level);
                int lowHigh = sideAfter(height, level);
                layBand(b, lowWide, 0, outerWide - lowWide, lowHigh);
                layBand(b + 1, 0, lowHigh, lowWide, outerHigh - lowHigh);
                layBand(b + 2, lowWide, lowHigh, outerWide - lowWide, outerHigh - lowHigh);
            }
            layBand(0, 0, 0, sideAfter(width, levels), sideAfter(height, levels));
        }

        private void layBand(int b, int x, int y, int bandWide, int bandHigh) {
            left[b] = x;
            top[b] = y;
            wide[b] = bandWide;
            high[b] = bandHigh;
        }

        /** The side of LL after so many levels. */
        private static int sideAfter(int side, int level) {
            return (side + (1 << level) - 1) >> level;
        }

        boolean hasBand(int b) {
            return b >= 0 && b < count;
        }

        boolean isEmpty(int b) {
            return wide[b] == 0 || high[b] == 0;
        }

        int kindOf(int b) {
            if (b == 0) {
                return LOW_OR_LH;
            }
            int place = (b - 1) % 3;
            return place == 0 ? HL : place == 1 ? LOW_OR_LH : HH;
        }

        boolean hasNumber(int b, int x, int y) {
            return hasBand(b) && x >= 0 && x < wide[b] && y >= 0 && y < high[b];
        }

        int at(int b, int x, int y) {
            return hasNumber(b, x, y) ? numbers[(top[b] + y) * SIDE + left[b] + x] : NONE;
        }

        void set(int b, int x, int y, int v) {
            if (hasNumber(b, x, y)) {
                numbers[(top[b] + y) * SIDE + left[b] + x] = v;
            }
        }

        void readPicture(Picture source) {
            for (int y = 0; y < height; y++) {
                for (int x = 0; x < width; x++) {
                    numbers[y * SIDE + x] = source.at(x, y) - MIDDLE;
                }
            }
        }

        void writePicture(Picture target) {
            target.begin(width, height);
            for (int y = 0; y < height; y++) {
                for (int x = 0; x < width; x++) {
                    int v = numbers[y * SIDE + x] + MIDDLE;
                    target.set(x, y, Math.max(0, Math.min(BRIGHTEST, v)));
                }
            }
        }

        void goForth() {
            for (int level = 0; level < levels; level++) {
                int w = sideAfter(width, level);
                int h = sideAfter(height, level);
                for (int x = 0; x < w; x++) {
                    splitLine(x, SIDE, h);
                }
                for (int y = 0; y < h; y++) {
                    splitLine(y * SIDE, 1, w);
                }
            }
        }

        void goBack() {
            for (int level = levels - 1; level >= 0; level--) {
                int w = sideAfter(width, level);
                int h = sideAfter(height, level);
                for (int y = 0; y < h; y++) {
                    joinLine(y * SIDE, 1, w);
                }
                for (int x = 0; x < w; x++) {
                    joinLine(x, SIDE, h);
                }
            }
        }

        private void splitLine(int start, int step, int n) {
            if (n < 2) {
                return;
            }
            readLine(start, step, n);
            int low = (n + 1) / 2;
            for (int k = 0; k < n / 2; k++) {
                int next = 2 * k + 2 < n ? from[2 * k + 2] : from[2 * k];
                to[low + k] = from[2 * k + 1] - ((from[2 * k] + next) >> 1);
            }
            for (int k = 0; k < low; k++) {
                to[k] = from[2 * k] + fourth(to, k, n);
            }
            writeLine(start, step, n);
        }

        private void joinLine(int start, int step, int n) {
            if (n < 2) {
                return;
            }
            readLine(start, step, n);
            int low = (n + 1) / 2;
            for (int k = 0; k < low; k++) {
                to[2 * k] = from[k] - fourth(from, k, n);
            }
            for (int k = 0; k < n / 2; k++) {
                int next = 2 * k + 2 < n ? to[2 * k + 2] : to[2 * k];
                to[2 * k + 1] = from[low + k] + ((to[2 * k] + next) >> 1);
            }
            writeLine(start, step, n);
        }

        /** What the d beside x(2k) give to s(k), in a line of s and then d. */
        private static int fourth(int[] line, int k, int n) {
            int low = (n + 1) / 2;
            int before = line[low + Math.max(k - 1, 0)];
            int behind = line[low + Math.min(k, n / 2 - 1)];
            return (before + behind + 2) >> 2;
        }

        private void readLine(int start, int step, int n) {
            for (int i = 0; i < n; i++) {
                from[i] = numbers[start + i * step];
            }
        }

        private void writeLine(int start, int step, int n) {
            for (int i = 0; i < n; i++) {
                numbers[start + i * step] = to[i];
            }
        }
    }

    /** Where a pass tells its bits to, or has them from. */
    private interface Told {
        /** The bit that is told in this context: the one meant by a teller, the one read by a reader. */
        int tellBit(int context, int meant);
    }

    /** The passes over one band's numbers; the same ones tell the bits and read them. */
    private static final class Passes {
        private static final int SPREADING = 0;
        private static final int REFINING = 1;
        private static final int CLEANUP = 2;
        private static final int STRIPE = 4;
        // Every row has a number that never wakes at either end, and so have the columns.
        private static final int ROW = SIDE + 2;
        private static final int NO_SIGN_BESIDE = 9;
        private static final int FIRST_REFINING = 14;
        private static final int FIRST_REFINING_BESIDE_AWAKE = 15;
        private static final int LATER_REFINING = 16;
        private static final int ANY_IN_COLUMN = 17;
        private static final int FIRST_IN_COLUMN = 18;

        private final Told told;
        private final int[] meant = new int[ROW * ROW];
        private final int[] size = new int[ROW * ROW];
        // 1 for awake and above 0, -1 for awake and below 0: the lowest bit of either counts it as awake.
        private final int[] awake = new int[ROW * ROW];
        private final boolean[] toldNow = new boolean[ROW * ROW];
        private final boolean[] refined = new boolean[ROW * ROW];
        private int wide;
        private int high;
        private int kind;
        private int plane;

        Passes(Told told) {
            this.told = told;
        }

        void begin(int newWide, int newHigh, int newKind) {
            wide = newWide;
            high = newHigh;
            kind = newKind;
            Arrays.fill(meant, 0);
            Arrays.fill(size, 0);
            Arrays.fill(awake, 0);
            clearTold();
            for (int p = 0; p < refined.length; p++) {
                refined[p] = false;
            }
        }

        void mean(int x, int y, int v) {
            meant[place(x, y)] = v;
        }

        int numberAt(int x, int y) {
            int p = place(x, y);
            return awake[p] * size[p];
        }

        /** Pass k, from 0 on, of a band with so many planes. */
        void runPass(int k, int planes) {
            plane = planes - 1 - (k + 2) / 3;
            int sort = (k + 2) % 3;
            for (int y = 0; y < high; y += STRIPE) {
                int rows = Math.min(STRIPE, high - y);
                for (int x = 0; x < wide; x++) {
                    if (sort == SPREADING) {
                        spreadColumn(place(x, y), rows);
                    } else if (sort == REFINING) {
                        refineColumn(place(x, y), rows);
                    } else {
                        cleanColumn(place(x, y), rows);
                    }
                }
            }
            if (sort == CLEANUP) {
                clearTold();
            }
        }

        private static int place(int x, int y) {
            return (y + 1) * ROW + x + 1;
        }

        private void clearTold() {
            for (int p = 0; p < toldNow.length; p++) {
                toldNow[p] = false;
            }
        }

        private void spreadColumn(int first, int rows) {
            for (int i = 0; i < rows; i++) {
                int p = first + i * ROW;
                int context = awake[p] == 0 ? contextOf(p) : 0;
                if (context > 0) {
                    toldNow[p] = true;
                    if (told.tellBit(context, meantBit(p)) == 1) {
                        wake(p);
                    }
                }
            }
        }

        private void refineColumn(int first, int rows) {
            for (int i = 0; i < rows; i++) {
                int p = first + i * ROW;
                if (awake[p] != 0 && !toldNow[p]) {
                    int context = refined[p] ? LATER_REFINING : firstRefiningContext(p);
                    refined[p] = true;
                    size[p] |= told.tellBit(context, meantBit(p)) << plane;
                }
            }
        }

        private int firstRefiningContext(int p) {
            boolean alone = inRow(p) + inColumn(p) + acrossCorners(p) == 0;
            return alone ? FIRST_REFINING : FIRST_REFINING_BESIDE_AWAKE;
        }

        private void cleanColumn(int first, int rows) {
            int next = 0;
            if (rows == STRIPE && isQuiet(first)) {
                int found = tellQuiet(first);
                if (found < STRIPE) {
                    wake(first + found * ROW);
                }
                next = found + 1;
            }
            for (int i = next; i < rows; i++) {
                int p = first + i * ROW;
                if (awake[p] == 0 && !toldNow[p] && told.tellBit(contextOf(p), meantBit(p)) == 1) {
                    wake(p);
                }
            }
        }

        private boolean isQuiet(int first) {
            for (int i = 0; i < STRIPE; i++) {
                int p = first + i * ROW;
                if (awake[p] != 0 || toldNow[p] || contextOf(p) != 0) {
                    return false;
                }
            }
            return true;
        }

        /** Tells in which row a quiet column's first bit 1 is; STRIPE when there is none. */
        private int tellQuiet(int first) {
            int where = 0;
            while (where < STRIPE && meantBit(first + where * ROW) == 0) {
                where++;
            }
            if (told.tellBit(ANY_IN_COLUMN, where < STRIPE ? 1 : 0) == 0) {
                return STRIPE;
            }
            int upper = told.tellBit(FIRST_IN_COLUMN, where >> 1 & 1);
            int lower = told.tellBit(FIRST_IN_COLUMN, where & 1);
            return 2 * upper + lower;
        }

        private void wake(int p) {
            int a = cut(awake[p - 1] + awake[p + 1]);
            int b = cut(awake[p - ROW] + awake[p + ROW]);
            int turned = a < 0 || a == 0 && b < 0 ? 1 : 0;
            if (turned == 1) {
                a = -a;
                b = -b;
            }
            int sign = meant[p] < 0 ? 1 : 0;
            int got = told.tellBit(NO_SIGN_BESIDE + 3 * a + b, sign ^ turned) ^ turned;
            awake[p] = got == 1 ? -1 : 1;
            size[p] |= 1 << plane;
        }

        private static int cut(int n) {
            return Math.max(-1, Math.min(1, n));
        }

        private int meantBit(int p) {
            return Math.abs(meant[p]) >> plane & 1;
        }

        private int inRow(int p) {
            return (awake[p - 1] & 1) + (awake[p + 1] & 1);
        }

        private int inColumn(int p) {
            return (awake[p - ROW] & 1) + (awake[p + ROW] & 1);
        }

        private int acrossCorners(int p) {
            return (awake[p - ROW - 1] & 1) + (awake[p - ROW + 1] & 1)
                    + (awake[p + ROW - 1] & 1) + (awake[p + ROW + 1] & 1);
        }

        private int contextOf(int p) {
            int h = inRow(p);
            int v = inColumn(p);
            int e = acrossCorners(p);
            if (kind == Bands.HH) {
                return cornersFirst(h + v, e);
            }
            return kind == Bands.HL ? rowFirst(v, h, e) : rowFirst(h, v, e);
        }

        private static int rowFirst(int h, int v, int e) {
            if (h == 2) {
                return 8;
            }
            if (h == 1) {
                return v > 0 ? 7 : e > 0 ? 6 : 5;
            }
            if (v > 0) {
                return v == 2 ? 4 : 3;
            }
            return e < 2 ? e : 2;
        }

        private static int cornersFirst(int t, int e) {
            if (e >= 3) {
                return 8;
            }
            if (e == 2) {
                return t > 0 ? 7 : 6;
            }
            return 3 * e + (t < 2 ? t : 2);
        }
    }

    /** What was told, in its order, and where each pass ended. */
    private static final class Tape implements Told {
        private final int[] contexts = new int[ROOM];
        private final int[] bits = new int[ROOM];
        private final int[] ends = new int[MOST_PASSES];
        private int length;
        private int passes;

        void clear() {
            length = 0;
            passes = 0;
        }

        public int tellBit(int context, int meant) {
            if (length < ROOM) {
                contexts[length] = context;
                bits[length] = meant;
                length++;
            }
            return meant;
        }

        void endPass() {
            if (passes < MOST_PASSES) {
                ends[passes] = length;
                passes++;
            }
        }

        void tellTo(Teller teller) {
            for (int i = 0; i < length; i++) {
                teller.tell(contexts[i], bits[i]);
            }
        }

        /** How many passes a reader reads right, from the first one on. */
        int passesReadRight(Reader reader) {
            int i = 0;
            for (int pass = 0; pass < passes; pass++) {
                for (; i < ends[pass]; i++) {
                    if (reader.tellBit(contexts[i], 0) != bits[i]) {
                        return pass;
                    }
                }
            }
            return passes;
        }
    }

    /** What the coder has learnt of each context. */
    private static final class Odds {
        private static final int CONTEXTS = 19;
        private static final int[] SIZES = {
            0x5601, 0x3401, 0x1801, 0x0ac1, 0x0521, 0x0221, 0x5601, 0x5401, 0x4801, 0x3801, 0x3001, 0x2401,
            0x1c01, 0x1601, 0x5601, 0x5401, 0x5101, 0x4801, 0x3801, 0x3401, 0x3001, 0x2801, 0x2401, 0x2201,
            0x1c01, 0x1801, 0x1601, 0x1401, 0x1201, 0x1101, 0x0ac1, 0x09c1, 0x08a1, 0x0521, 0x0441, 0x02a1,
            0x0221, 0x0141, 0x0111, 0x0085, 0x0049, 0x0025, 0x0015, 0x0009, 0x0005, 0x0001, 0x5601};
        private static final int[] AFTER_LIKELY = {
            1, 2, 3, 4, 5, 38, 7, 8, 9, 10, 11, 12, 13, 29, 15, 16, 17, 18, 19, 20, 21, 22, 23, 24,
            25, 26, 27, 28, 29, 30, 31, 32, 33, 34, 35, 36, 37, 38, 39, 40, 41, 42, 43, 44, 45, 45, 46};
        private static final int[] AFTER_OTHER = {
            1, 6, 9, 12, 29, 33, 6, 14, 14, 14, 17, 18, 20, 21, 14, 14, 15, 16, 17, 18, 19, 19, 20, 21,
            22, 23, 24, 25, 26, 27, 28, 29, 30, 31, 32, 33, 34, 35, 36, 37, 38, 39, 40, 41, 42, 43, 46};

        private final int[] state = new int[CONTEXTS];
        private final int[] likely = new int[CONTEXTS];

        void begin() {
            Arrays.fill(likely, 0);
            Arrays.fill(state, 0);
            state[0] = 4;
            state[17] = 3;
            state[18] = 46;
        }

        int sizeOf(int context) {
            return SIZES[state[context]];
        }

        int likelyBit(int context) {
            return likely[context];
        }

        void learn(int context, int bit) {
            int s = state[context];
            if (bit == likely[context]) {
                state[context] = AFTER_LIKELY[s];
                return;
            }
            state[context] = AFTER_OTHER[s];
            if (s == 0 || s == 6 || s == 14) {
                likely[context] = bit;
            }
        }
    }

    /** The coder's telling: bits become bytes. */
    private static final class Teller {
        private static final int CARRY = 0x8000000;

        private final Odds odds = new Odds();
        private final int[] bytes = new int[ROOM];
        private int length;
        private int a;
        private int c;
        private int t;

        void begin() {
            odds.begin();
            // The byte before the first one, at which the first one that goes out looks; it is left out in the end.
            bytes[0] = 0;
            length = 1;
            a = 0x8000;
            c = 0;
            t = 12;
        }

        void tell(int context, int bit) {
            int q = odds.sizeOf(context);
            boolean likely = bit == odds.likelyBit(context);
            a -= q;
            if (likely && a >= 0x8000) {
                c += q;
                return;
            }
            if (likely == (a < q)) {
                a = q;
            } else {
                c += q;
            }
            odds.learn(context, bit);
            mend();
        }

        private void mend() {
            for (int k = 0; k < MOST_DOUBLINGS && a < 0x8000; k++) {
                a <<= 1;
                c <<= 1;
                t--;
                if (t == 0) {
                    goOut();
                }
            }
        }

        private void goOut() {
            int last = bytes[length - 1];
            if (last != 0xff && c >= CARRY) {
                last++;
                bytes[length - 1] = last;
                if (last == 0xff) {
                    c &= CARRY - 1;
                }
            }
            int unit = last == 0xff ? 0x100000 : 0x80000;
            if (length < ROOM) {
                bytes[length] = c / unit & 0xff;
                length++;
            }
            c %= unit;
            t = last == 0xff ? 7 : 8;
        }

        void end() {
            int u = c + a;
            c |= 0xffff;
            if (c >= u) {
                c -= 0x8000;
            }
            c <<= t;
            goOut();
            c <<= t;
            goOut();
        }

        /** Adds the bytes that were told to a row, and answers how many. */
        int addBytesTo(ByteRow row) {
            int end = bytes[length - 1] == 0xff ? length - 1 : length;
            for (int i = 1; i < end; i++) {
                row.add(bytes[i]);
            }
            return end - 1;
        }
    }

    /** The coder's reading: bytes become bits. */
    private static final class Reader implements Told {
        // When poked bytes bring C this far above A, it stays above for good, however great it is.
        private static final long TOP = 1L << 40;

        private final Odds odds = new Odds();
        private final int[] bytes = new int[ROOM];
        private int given;
        private int length;
        private int place;
        private int a;
        private int t;
        private long c;

        void clear() {
            given = 0;
        }

        void addFrom(ByteRow row, int start, int count) {
            for (int i = 0; i < count && given < ROOM; i++) {
                bytes[given] = row.at(start + i);
                given++;
            }
        }

        int given() {
            return given;
        }

        /** Begins to read from the first so many of the bytes that were given. */
        void begin(int newLength) {
            odds.begin();
            length = Math.min(newLength, given);
            place = 0;
            c = (length > 0 ? bytes[0] : 0xff) * 0x10000L;
            comeIn();
            c <<= 7;
            t -= 7;
            a = 0x8000;
        }

        private void comeIn() {
            int here = place < length ? bytes[place] : 0xff;
            int next = place + 1 < length ? bytes[place + 1] : 0xff;
            if (here == 0xff && next > 0x8f) {
                c += 0xff00;
                t = 8;
                return;
            }
            place++;
            c += next * (here == 0xff ? 0x200 : 0x100);
            t = here == 0xff ? 7 : 8;
        }

        public int tellBit(int context, int meant) {
            int q = odds.sizeOf(context);
            int likely = odds.likelyBit(context);
            int bit;
            a -= q;
            if (c >> 16 < q) {
                bit = a < q ? likely : 1 - likely;
                a = q;
            } else {
                c -= (long) q << 16;
                if (a >= 0x8000) {
                    return likely;
                }
                bit = a < q ? 1 - likely : likely;
            }
            odds.learn(context, bit);
            for (int k = 0; k < MOST_DOUBLINGS && a < 0x8000; k++) {
                if (t == 0) {
                    comeIn();
                }
                a <<= 1;
                c = Math.min(c << 1, TOP);
                t--;
            }
            return bit;
        }
    }

    /** Packs a picture, and keeps what there is to know of its bands. */
    private static final class Packer {
        private final Bands bands = new Bands();
        private final int[] planes = new int[MOST_BANDS];
        private final int[] codeStart = new int[MOST_BANDS];
        private final int[] codeLength = new int[MOST_BANDS];
        private final int[] leasts = new int[MOST_BANDS * (MOST_PASSES + 1)];
        private final int[] had = new int[MOST_BANDS];
        private final int[] widthOfLengths = new int[MOST_BANDS];
        private final ByteRow codes = new ByteRow();
        private final Tape tape = new Tape();
        private final Passes passes = new Passes(tape);
        private final Teller teller = new Teller();
        private final Reader reader = new Reader();

        int about(int b, int what) {
            if (!bands.hasBand(b)) {
                return NONE;
            }
            switch (what) {
                case 0:
                    return bands.wide[b];
                case 1:
                    return bands.high[b];
                case 2:
                    return planes[b];
                case 3:
                    return passesOf(planes[b]);
                case 4:
                    return codeLength[b];
                default:
                    return NONE;
            }
        }

        int numberOf(int b, int x, int y) {
            return bands.at(b, x, y);
        }

        int codeByte(int b, int i) {
            if (!bands.hasBand(b) || i < 0 || i >= codeLength[b]) {
                return NONE;
            }
            return codes.at(codeStart[b] + i);
        }

        int leastLength(int b, int passCount) {
            if (!bands.hasBand(b) || passCount < 0 || passCount > passesOf(planes[b])) {
                return NONE;
            }
            return leasts[b * (MOST_PASSES + 1) + passCount];
        }

        void pack(Picture source, int levels, int layers, ByteRow stream) {
            bands.lay(source.width, source.height, levels);
            bands.readPicture(source);
            bands.goForth();
            codes.clear();
            for (int b = 0; b < bands.count; b++) {
                planes[b] = planesOf(b);
                had[b] = 0;
                widthOfLengths[b] = FIRST_WIDTH_OF_LENGTHS;
                tellBand(b);
                findLeasts(b);
            }
            stream.clear();
            stream.add(source.width);
            stream.add(source.height);
            stream.add(levels);
            stream.add(layers);
            for (int layer = 1; layer <= layers; layer++) {
                for (int r = 0; r <= levels; r++) {
                    writePacket(r, layer, layers, stream);
                }
            }
        }

        private int planesOf(int b) {
            int greatest = 0;
            for (int y = 0; y < bands.high[b]; y++) {
                for (int x = 0; x < bands.wide[b]; x++) {
                    greatest = Math.max(greatest, Math.abs(bands.at(b, x, y)));
                }
            }
            return Math.min(MOST_PLANES, bitsOf(greatest));
        }

        private void tellBand(int b) {
            codeStart[b] = codes.length();
            codeLength[b] = 0;
            tape.clear();
            if (planes[b] == 0) {
                return;
            }
            passes.begin(bands.wide[b], bands.high[b], bands.kindOf(b));
            for (int y = 0; y < bands.high[b]; y++) {
                for (int x = 0; x < bands.wide[b]; x++) {
                    passes.mean(x, y, bands.at(b, x, y));
                }
            }
            for (int k = 0; k < passesOf(planes[b]); k++) {
                passes.runPass(k, planes[b]);
                tape.endPass();
            }
            teller.begin();
            tape.tellTo(teller);
            teller.end();
            codeLength[b] = teller.addBytesTo(codes);
        }

        private void findLeasts(int b) {
            int first = b * (MOST_PASSES + 1);
            int all = passesOf(planes[b]);
            leasts[first] = 0;
            reader.clear();
            reader.addFrom(codes, codeStart[b], codeLength[b]);
            int known = 0;
            for (int length = 0; length <= codeLength[b] && known < all; length++) {
                reader.begin(length);
                int right = tape.passesReadRight(reader);
                while (known < right) {
                    known++;
                    leasts[first + known] = length;
                }
            }
        }

        private void writePacket(int r, int layer, int layers, ByteRow stream) {
            boolean any = false;
            for (int b = firstBandOf(r); b <= lastBandOf(r); b++) {
                any = any || passesUpTo(b, layer, layers) > had[b];
            }
            stream.putBits(any ? 1 : 0, 1);
            if (!any) {
                stream.endBits();
                return;
            }
            for (int b = firstBandOf(r); b <= lastBandOf(r); b++) {
                if (!bands.isEmpty(b)) {
                    writeBandHead(b, passesUpTo(b, layer, layers), stream);
                }
            }
            stream.endBits();
            for (int b = firstBandOf(r); b <= lastBandOf(r); b++) {
                int passCount = passesUpTo(b, layer, layers);
                int start = leastLength(b, had[b]);
                stream.addFrom(codes, codeStart[b] + start, leastLength(b, passCount) - start);
                had[b] = passCount;
            }
        }

        private int passesUpTo(int b, int layer, int layers) {
            return layers > 0 ? layer * passesOf(planes[b]) / layers : 0;
        }

        private void writeBandHead(int b, int passCount, ByteRow stream) {
            int n = passCount - had[b];
            stream.putBits(n > 0 ? 1 : 0, 1);
            if (n <= 0) {
                return;
            }
            if (had[b] == 0) {
                stream.putBits(planes[b], 4);
            }
            writeCount(n, stream);
            int bytes = leastLength(b, passCount) - leastLength(b, had[b]);
            int logarithm = bitsOf(n) - 1;
            int grow = Math.max(0, bitsOf(bytes) - widthOfLengths[b] - logarithm);
            widthOfLengths[b] += grow;
            for (int k = 0; k < grow; k++) {
                stream.putBits(1, 1);
            }
            stream.putBits(0, 1);
            stream.putBits(bytes, widthOfLengths[b] + logarithm);
        }

        private static void writeCount(int n, ByteRow stream) {
            if (n == 1) {
                stream.putBits(0, 1);
            } else if (n == 2) {
                stream.putBits(2, 2);
            } else if (n <= 5) {
                stream.putBits(3, 2);
                stream.putBits(n - 3, 2);
            } else {
                stream.putBits(15, 4);
                stream.putBits(n - 6, 5);
            }
        }
    }

    /** Takes packets from a stream, and makes the picture that they give. */
    private static final class Unpacker {
        private static final int WHOLE = 0;
        private static final int CUT = 1;
        private static final int MALFORMED = -1;

        private final Bands bands = new Bands();
        private final int[] planes = new int[MOST_BANDS];
        private final int[] passCount = new int[MOST_BANDS];
        private final int[] widthOfLengths = new int[MOST_BANDS];
        private final int[] gained = new int[MOST_BANDS];
        private final int[] gainedBytes = new int[MOST_BANDS];
        private final int[] parts = new int[MOST_BANDS];
        private final int[] partStart = new int[MOST_BANDS * MOST_LAYERS];
        private final int[] partLength = new int[MOST_BANDS * MOST_LAYERS];
        private final int[] taken = new int[MOST_BANDS];
        private final Reader reader = new Reader();
        private final Passes passes = new Passes(reader);
        private int bandsTaken;

        int passesTaken(int b) {
            return b >= 0 && b < bandsTaken ? taken[b] : NONE;
        }

        /** How many packets lie in the first n bytes as a whole; below 0 when they are malformed. */
        int takePackets(ByteRow stream, int n) {
            int levels = stream.at(2);
            int layers = stream.at(3);
            if (!isSide(stream.at(0)) || !isSide(stream.at(1)) || !areLevels(levels) || !areLayers(layers)) {
                return MALFORMED;
            }
            bands.lay(stream.at(0), stream.at(1), levels);
            Arrays.fill(passCount, 0);
            Arrays.fill(widthOfLengths, FIRST_WIDTH_OF_LENGTHS);
            Arrays.fill(parts, 0);
            stream.takeFrom(HEADER, n);
            for (int packet = 0; packet < layers * (levels + 1); packet++) {
                int found = takePacket(stream, n, packet % (levels + 1));
                if (found != WHOLE) {
                    return found == CUT ? packet : MALFORMED;
                }
            }
            return layers * (levels + 1);
        }

        private int takePacket(ByteRow stream, int n, int r) {
            int found = readHead(stream, r);
            if (found != WHOLE) {
                return found;
            }
            int start = stream.byteBehindBits();
            int sum = 0;
            for (int b = firstBandOf(r); b <= lastBandOf(r); b++) {
                sum += gainedBytes[b];
            }
            if (sum > n - start) {
                return CUT;
            }
            for (int b = firstBandOf(r); b <= lastBandOf(r); b++) {
                passCount[b] += gained[b];
                addPart(b, start, gainedBytes[b]);
                start += gainedBytes[b];
            }
            stream.takeFrom(start, n);
            return WHOLE;
        }

        private void addPart(int b, int start, int length) {
            if (parts[b] < MOST_LAYERS) {
                partStart[b * MOST_LAYERS + parts[b]] = start;
                partLength[b * MOST_LAYERS + parts[b]] = length;
                parts[b]++;
            }
        }

        private int readHead(ByteRow stream, int r) {
            for (int b = firstBandOf(r); b <= lastBandOf(r); b++) {
                gained[b] = 0;
                gainedBytes[b] = 0;
            }
            int any = stream.takeBits(1);
            if (any != 1) {
                return any == 0 ? WHOLE : CUT;
            }
            for (int b = firstBandOf(r); b <= lastBandOf(r); b++) {
                int found = bands.isEmpty(b) ? WHOLE : readBandHead(stream, b);
                if (found != WHOLE) {
                    return found;
                }
            }
            return WHOLE;
        }

        private int readBandHead(ByteRow stream, int b) {
            int included = stream.takeBits(1);
            if (included != 1) {
                return included == 0 ? WHOLE : CUT;
            }
            if (passCount[b] == 0) {
                int told = stream.takeBits(4);
                if (told < 0) {
                    return CUT;
                }
                if (told == 0 || told > MOST_PLANES) {
                    return MALFORMED;
                }
                planes[b] = told;
            }
            int n = readCount(stream);
            if (n < 0) {
                return CUT;
            }
            if (passCount[b] + n > passesOf(planes[b])) {
                return MALFORMED;
            }
            growWidth(stream, b);
            int bytes = stream.takeBits(widthOfLengths[b] + bitsOf(n) - 1);
            if (bytes < 0) {
                return CUT;
            }
            gained[b] = n;
            gainedBytes[b] = bytes;
            return WHOLE;
        }

        /** How many passes the head tells; below 0 when its bits are not all there. */
        private static int readCount(ByteRow stream) {
            int bit = stream.takeBits(1);
            if (bit != 1) {
                return bit == 0 ? 1 : bit;
            }
            bit = stream.takeBits(1);
            if (bit != 1) {
                return bit == 0 ? 2 : bit;
            }
            int few = stream.takeBits(2);
            if (few != 3) {
                return few < 0 ? few : 3 + few;
            }
            int many = stream.takeBits(5);
            return many < 0 ? many : 6 + many;
        }

        /** Bits 1 up to the end of the bytes leave none for the number of bytes: that is lacking then. */
        private void growWidth(ByteRow stream, int b) {
            for (int k = 0; k < 8 * ROOM && stream.takeBits(1) == 1; k++) {
                widthOfLengths[b]++;
            }
        }

        void restore(ByteRow stream, Picture target) {
            for (int b = 0; b < bands.count; b++) {
                gatherBytes(stream, b);
                passes.begin(bands.wide[b], bands.high[b], bands.kindOf(b));
                for (int k = 0; k < passCount[b]; k++) {
                    passes.runPass(k, planes[b]);
                }
                keepNumbers(b);
                taken[b] = passCount[b];
            }
            bandsTaken = bands.count;
            bands.goBack();
            bands.writePicture(target);
        }

        private void gatherBytes(ByteRow stream, int b) {
            reader.clear();
            for (int part = 0; part < parts[b]; part++) {
                int at = b * MOST_LAYERS + part;
                reader.addFrom(stream, partStart[at], partLength[at]);
            }
            reader.begin(reader.given());
        }

        private void keepNumbers(int b) {
            for (int y = 0; y < bands.high[b]; y++) {
                for (int x = 0; x < bands.wide[b]; x++) {
                    bands.set(b, x, y, passes.numberAt(x, y));
                }
            }
        }
    }
}
