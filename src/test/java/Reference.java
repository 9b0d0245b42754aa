import java.math.BigInteger;
import java.util.ArrayList;
import java.util.List;
import java.util.function.IntUnaryOperator;

/**
 * The document once more, as literally as it goes and without regard to speed or room, so that
 * WaveletStream has something to be compared with. It shares no code and no layout with it.
 */
final class Reference {
    static final int NONE = -100000;

    /** The document's table of states, letter for letter. */
    static final String STATES =
        "5601 1 1, 3401 2 6, 1801 3 9, 0ac1 4 12, 0521 5 29, 0221 38 33, 5601 7 6, 5401 8 14, 4801 9 14, "
        + "3801 10 14, 3001 11 17, 2401 12 18, 1c01 13 20, 1601 29 21, 5601 15 14, 5401 16 14, 5101 17 15, "
        + "4801 18 16, 3801 19 17, 3401 20 18, 3001 21 19, 2801 22 19, 2401 23 20, 2201 24 21, "
        + "1c01 25 22, 1801 26 23, 1601 27 24, 1401 28 25, 1201 29 26, 1101 30 27, 0ac1 31 28, 09c1 32 29, "
        + "08a1 33 30, 0521 34 31, 0441 35 32, 02a1 36 33, 0221 37 34, 0141 38 35, 0111 39 36, 0085 40 37, "
        + "0049 41 38, 0025 42 39, 0015 43 40, 0009 44 41, 0005 45 42, 0001 45 43, 5601 46 46";

    /** A band: its numbers by row and column, what it is, and what is known of its codeword. */
    static final class Band {
        final String sort;
        final int[][] numbers;
        int planes;
        int passes;
        List<Integer> codeword = new ArrayList<>();
        List<Integer> least = new ArrayList<>();
        int had;
        int width = 3;
        int taken;
        List<Integer> bytes = new ArrayList<>();

        Band(String sort, int[][] numbers) {
            this.sort = sort;
            this.numbers = numbers;
        }

        int high() {
            return numbers.length;
        }

        int wide() {
            return numbers.length == 0 ? emptyWide : numbers[0].length;
        }

        int emptyWide;

        boolean isEmpty() {
            return high() == 0 || wide() == 0;
        }
    }

    /** Tells a bit in a context, or reads one. */
    interface Line {
        int bit(int context, int meant);
    }

    static final class Malformed extends Exception {
        private static final long serialVersionUID = 1L;
    }

    static final class Cut extends Exception {
        private static final long serialVersionUID = 1L;
    }

    int[][] picture = new int[1][1];
    int[][] decoded;
    List<Integer> stream = new ArrayList<>();
    List<Band> bands = new ArrayList<>();
    List<Integer> taken = new ArrayList<>();

    // ---- the picture

    void picture(int width, int height) {
        if (width < 1 || width > 8 || height < 1 || height > 8) {
            throw new IllegalArgumentException();
        }
        picture = new int[height][width];
    }

    void paint(int x, int y, int v) {
        if (pixel(x, y) == NONE || v < 0 || v > 255) {
            throw new IllegalArgumentException();
        }
        picture[y][x] = v;
    }

    int pixel(int x, int y) {
        return in(picture, x, y);
    }

    private static int in(int[][] grid, int x, int y) {
        if (grid == null || y < 0 || y >= grid.length || x < 0 || x >= grid[0].length) {
            return NONE;
        }
        return grid[y][x];
    }

    int decoded(int x, int y) {
        return in(decoded, x, y);
    }

    int difference() {
        if (decoded == null || decoded.length != picture.length || decoded[0].length != picture[0].length) {
            return NONE;
        }
        int most = 0;
        for (int y = 0; y < picture.length; y++) {
            for (int x = 0; x < picture[0].length; x++) {
                most = Math.max(most, Math.abs(picture[y][x] - decoded[y][x]));
            }
        }
        return most;
    }

    // ---- the wavelet

    static int floored(int a, int b) {
        return Math.floorDiv(a, b);
    }

    /** s and then d of a row. */
    static int[] forth(int[] x) {
        int n = x.length;
        if (n <= 1) {
            return x.clone();
        }
        int ds = n / 2;
        int[] d = new int[ds];
        for (int k = 0; k < ds; k++) {
            int right = 2 * k + 2 == n ? x[n - 2] : x[2 * k + 2];
            d[k] = x[2 * k + 1] - floored(x[2 * k] + right, 2);
        }
        int[] out = new int[n];
        int ss = n - ds;
        for (int k = 0; k < ss; k++) {
            int before = k == 0 ? d[0] : d[k - 1];
            int here = k == ds ? d[ds - 1] : d[k];
            out[k] = x[2 * k] + floored(before + here + 2, 4);
        }
        System.arraycopy(d, 0, out, ss, ds);
        return out;
    }

    static int[] back(int[] sd) {
        int n = sd.length;
        if (n <= 1) {
            return sd.clone();
        }
        int ds = n / 2;
        int ss = n - ds;
        int[] x = new int[n];
        for (int k = 0; k < ss; k++) {
            int before = k == 0 ? sd[ss] : sd[ss + k - 1];
            int here = k == ds ? sd[ss + ds - 1] : sd[ss + k];
            x[2 * k] = sd[k] - floored(before + here + 2, 4);
        }
        for (int k = 0; k < ds; k++) {
            int right = 2 * k + 2 == n ? x[n - 2] : x[2 * k + 2];
            x[2 * k + 1] = sd[ss + k] + floored(x[2 * k] + right, 2);
        }
        return x;
    }

    static int[][] turned(int[][] grid, int wide) {
        int[][] out = new int[wide][grid.length];
        for (int y = 0; y < grid.length; y++) {
            for (int x = 0; x < wide; x++) {
                out[x][y] = grid[y][x];
            }
        }
        return out;
    }

    static int[][] cutOut(int[][] grid, int x0, int y0, int wide, int high) {
        int[][] out = new int[high][wide];
        for (int y = 0; y < high; y++) {
            System.arraycopy(grid[y0 + y], x0, out[y], 0, wide);
        }
        return out;
    }

    static Band part(String sort, int[][] grid, int x0, int y0, int wide, int high) {
        Band b = new Band(sort, cutOut(grid, x0, y0, wide, high));
        b.emptyWide = wide;
        return b;
    }

    /** The bands of numbers in rows, band 0 first. */
    static List<Band> split(int[][] numbers, int levels) {
        int high = numbers.length;
        int wide = numbers[0].length;
        if (levels == 0) {
            List<Band> one = new ArrayList<>();
            one.add(part("LL", numbers, 0, 0, wide, high));
            return one;
        }
        int[][] columns = turned(numbers, wide);
        for (int x = 0; x < wide; x++) {
            columns[x] = forth(columns[x]);
        }
        int[][] rows = turned(columns, high);
        for (int y = 0; y < high; y++) {
            rows[y] = forth(rows[y]);
        }
        int sw = wide - wide / 2;
        int sh = high - high / 2;
        List<Band> all = split(cutOut(rows, 0, 0, sw, sh), levels - 1);
        all.add(part("HL", rows, sw, 0, wide / 2, sh));
        all.add(part("LH", rows, 0, sh, sw, high / 2));
        all.add(part("HH", rows, sw, sh, wide / 2, high / 2));
        return all;
    }

    static int[][] join(List<Band> all, int levels) {
        if (levels == 0) {
            return all.get(0).numbers;
        }
        int[][] low = join(all, levels - 1);
        Band hl = all.get(3 * levels - 2);
        Band lh = all.get(3 * levels - 1);
        Band hh = all.get(3 * levels);
        int sw = low[0].length;
        int sh = low.length;
        int wide = sw + hl.wide();
        int high = sh + lh.high();
        int[][] rows = new int[high][wide];
        for (int y = 0; y < high; y++) {
            for (int x = 0; x < wide; x++) {
                if (y < sh) {
                    rows[y][x] = x < sw ? low[y][x] : hl.numbers[y][x - sw];
                } else {
                    rows[y][x] = x < sw ? lh.numbers[y - sh][x] : hh.numbers[y - sh][x - sw];
                }
            }
        }
        for (int y = 0; y < high; y++) {
            rows[y] = back(rows[y]);
        }
        int[][] columns = turned(rows, wide);
        for (int x = 0; x < wide; x++) {
            columns[x] = back(columns[x]);
        }
        return turned(columns, high);
    }

    // ---- the passes

    /** A band while its passes go over it. */
    static final class Walk {
        final String sort;
        final int high;
        final int wide;
        final int[][] meant;
        final int[][] sizes;
        final int[][] signs;
        final boolean[][] awake;
        final boolean[][] refined;
        boolean[][] wokenInSpreading;
        boolean[][] told;
        final Line line;

        Walk(Band b, Line line) {
            sort = b.sort;
            high = b.high();
            wide = b.wide();
            meant = b.numbers;
            sizes = new int[high][wide];
            signs = new int[high][wide];
            awake = new boolean[high][wide];
            refined = new boolean[high][wide];
            this.line = line;
            newPlane();
        }

        void newPlane() {
            wokenInSpreading = new boolean[high][wide];
            told = new boolean[high][wide];
        }

        int up(int x, int y) {
            return x >= 0 && x < wide && y >= 0 && y < high && awake[y][x] ? 1 : 0;
        }

        int signed(int x, int y) {
            return up(x, y) == 1 ? signs[y][x] : 0;
        }

        int context(int x, int y) {
            int h = up(x - 1, y) + up(x + 1, y);
            int v = up(x, y - 1) + up(x, y + 1);
            int e = up(x - 1, y - 1) + up(x + 1, y - 1) + up(x - 1, y + 1) + up(x + 1, y + 1);
            if (sort.equals("HH")) {
                int t = h + v;
                switch (e) {
                    case 4:
                    case 3:
                        return 8;
                    case 2:
                        return t > 0 ? 7 : 6;
                    case 1:
                        return t >= 2 ? 5 : t == 1 ? 4 : 3;
                    default:
                        return t >= 2 ? 2 : t == 1 ? 1 : 0;
                }
            }
            if (sort.equals("HL")) {
                int swap = h;
                h = v;
                v = swap;
            }
            if (h == 2) {
                return 8;
            }
            if (h == 1) {
                if (v > 0) {
                    return 7;
                }
                return e > 0 ? 6 : 5;
            }
            if (v == 2) {
                return 4;
            }
            if (v == 1) {
                return 3;
            }
            return e >= 2 ? 2 : e == 1 ? 1 : 0;
        }

        int bitMeant(int x, int y, int plane) {
            return (Math.abs(meant[y][x]) >>> plane) % 2;
        }

        void sign(int x, int y, int plane) {
            int a = Math.max(-1, Math.min(1, signed(x - 1, y) + signed(x + 1, y)));
            int b = Math.max(-1, Math.min(1, signed(x, y - 1) + signed(x, y + 1)));
            boolean other = a < 0 || (a == 0 && b < 0);
            int context = other ? 9 - 3 * a - b : 9 + 3 * a + b;
            int below = meant[y][x] < 0 ? 1 : 0;
            int bit = line.bit(context, other ? 1 - below : below);
            int sign = other ? 1 - bit : bit;
            signs[y][x] = sign == 1 ? -1 : 1;
            awake[y][x] = true;
            sizes[y][x] += 1 << plane;
        }

        void spreading(int plane) {
            each((x, y) -> {
                int context = context(x, y);
                if (!awake[y][x] && context > 0) {
                    told[y][x] = true;
                    if (line.bit(context, bitMeant(x, y, plane)) == 1) {
                        sign(x, y, plane);
                        wokenInSpreading[y][x] = true;
                    }
                }
            });
        }

        void refining(int plane) {
            each((x, y) -> {
                if (awake[y][x] && !wokenInSpreading[y][x]) {
                    int beside = 0;
                    for (int dy = -1; dy <= 1; dy++) {
                        for (int dx = -1; dx <= 1; dx++) {
                            beside += dx == 0 && dy == 0 ? 0 : up(x + dx, y + dy);
                        }
                    }
                    int context = refined[y][x] ? 16 : beside > 0 ? 15 : 14;
                    refined[y][x] = true;
                    sizes[y][x] += line.bit(context, bitMeant(x, y, plane)) << plane;
                }
            });
        }

        void cleanup(int plane) {
            for (int top = 0; top < high; top += 4) {
                for (int x = 0; x < wide; x++) {
                    int y = top;
                    boolean quiet = top + 4 <= high;
                    for (int i = top; quiet && i < top + 4; i++) {
                        quiet = !awake[i][x] && !told[i][x] && context(x, i) == 0;
                    }
                    if (quiet) {
                        int first = 0;
                        while (first < 4 && bitMeant(x, top + first, plane) == 0) {
                            first++;
                        }
                        if (line.bit(17, first < 4 ? 1 : 0) == 0) {
                            continue;
                        }
                        int place = line.bit(18, first / 2 % 2) * 2;
                        place += line.bit(18, first % 2);
                        sign(x, top + place, plane);
                        y = top + place + 1;
                    }
                    for (; y < Math.min(high, top + 4); y++) {
                        if (!awake[y][x] && !told[y][x]
                                && line.bit(context(x, y), bitMeant(x, y, plane)) == 1) {
                            sign(x, y, plane);
                        }
                    }
                }
            }
            newPlane();
        }

        interface At {
            void visit(int x, int y);
        }

        void each(At at) {
            for (int top = 0; top < high; top += 4) {
                for (int x = 0; x < wide; x++) {
                    for (int y = top; y < Math.min(high, top + 4); y++) {
                        at.visit(x, y);
                    }
                }
            }
        }

        /** The first passes of so many planes; after each one, done is told. */
        void passes(int planes, int count, IntUnaryOperator done) {
            int k = 0;
            for (int plane = planes - 1; plane >= 0; plane--) {
                for (int sortOfPass = plane == planes - 1 ? 2 : 0; sortOfPass < 3; sortOfPass++) {
                    if (k == count) {
                        return;
                    }
                    if (sortOfPass == 0) {
                        spreading(plane);
                    } else if (sortOfPass == 1) {
                        refining(plane);
                    } else {
                        cleanup(plane);
                    }
                    k++;
                    done.applyAsInt(k);
                }
            }
        }
    }

    // ---- the coder

    static final class Learnt {
        final int[] likely = new int[19];
        final int[] state = new int[19];

        Learnt() {
            state[18] = 46;
            state[17] = 3;
            state[0] = 4;
        }

        static int of(int state, int what) {
            return Integer.parseInt(STATES.split(", ")[state].split(" ")[what], what == 0 ? 16 : 10);
        }

        static final int[][] TABLE = table();

        static int[][] table() {
            int[][] t = new int[47][3];
            for (int i = 0; i < 47; i++) {
                for (int j = 0; j < 3; j++) {
                    t[i][j] = of(i, j);
                }
            }
            return t;
        }

        int q(int context) {
            return TABLE[state[context]][0];
        }

        void next(int context, boolean likelyCame) {
            int s = state[context];
            state[context] = TABLE[s][likelyCame ? 1 : 2];
            if (!likelyCame && (s == 0 || s == 6 || s == 14)) {
                likely[context] = 1 - likely[context];
            }
        }
    }

    static final class Telling implements Line {
        final Learnt learnt = new Learnt();
        final List<Integer> bytes = new ArrayList<>(List.of(0));
        long a = 0x8000;
        long c = 0;
        int t = 12;

        @Override
        public int bit(int context, int bit) {
            long q = learnt.q(context);
            a -= q;
            if (bit == learnt.likely[context]) {
                if (a < 0x8000) {
                    if (a < q) {
                        a = q;
                    } else {
                        c += q;
                    }
                    learnt.next(context, true);
                    mend();
                } else {
                    c += q;
                }
            } else {
                if (a < q) {
                    c += q;
                } else {
                    a = q;
                }
                learnt.next(context, false);
                mend();
            }
            return bit;
        }

        void mend() {
            do {
                a *= 2;
                c *= 2;
                t--;
                if (t == 0) {
                    out();
                }
            } while (a < 0x8000);
        }

        void out() {
            int at = bytes.size() - 1;
            if (bytes.get(at) != 0xff && c >= 0x8000000L) {
                bytes.set(at, bytes.get(at) + 1);
                if (bytes.get(at) == 0xff) {
                    c &= ~0x8000000L;
                }
            }
            if (bytes.get(at) == 0xff) {
                bytes.add((int) (c / 0x100000 % 256));
                c %= 0x100000;
                t = 7;
            } else {
                bytes.add((int) (c / 0x80000 % 256));
                c %= 0x80000;
                t = 8;
            }
        }

        List<Integer> end() {
            long u = c + a;
            c |= 0xffff;
            if (c >= u) {
                c -= 0x8000;
            }
            for (int twice = 0; twice < 2; twice++) {
                c <<= t;
                out();
            }
            if (bytes.get(bytes.size() - 1) == 0xff) {
                bytes.remove(bytes.size() - 1);
            }
            return new ArrayList<>(bytes.subList(1, bytes.size()));
        }
    }

    static final class Reading implements Line {
        final Learnt learnt = new Learnt();
        final List<Integer> bytes;
        int place;
        int a;
        int t;
        BigInteger c;

        Reading(List<Integer> bytes) {
            this.bytes = bytes;
            c = BigInteger.valueOf(byteAt(0)).shiftLeft(16);
            in();
            c = c.shiftLeft(7);
            t -= 7;
            a = 0x8000;
        }

        int byteAt(int i) {
            return i < bytes.size() ? bytes.get(i) : 0xff;
        }

        void in() {
            if (byteAt(place) == 0xff && byteAt(place + 1) > 0x8f) {
                c = c.add(BigInteger.valueOf(0xff00));
                t = 8;
            } else if (byteAt(place) == 0xff) {
                place++;
                c = c.add(BigInteger.valueOf(byteAt(place) * 0x200L));
                t = 7;
            } else {
                place++;
                c = c.add(BigInteger.valueOf(byteAt(place) * 0x100L));
                t = 8;
            }
        }

        @Override
        public int bit(int context, int unused) {
            int q = learnt.q(context);
            a -= q;
            boolean likely;
            if (c.shiftRight(16).compareTo(BigInteger.valueOf(q)) < 0) {
                likely = a < q;
                a = q;
            } else {
                c = c.subtract(BigInteger.valueOf(q).shiftLeft(16));
                if (a >= 0x8000) {
                    return learnt.likely[context];
                }
                likely = !(a < q);
            }
            int bit = likely ? learnt.likely[context] : 1 - learnt.likely[context];
            learnt.next(context, likely);
            do {
                if (t == 0) {
                    in();
                }
                a *= 2;
                c = c.shiftLeft(1);
                t--;
            } while (a < 0x8000);
            return bit;
        }
    }

    // ---- encoding

    int encode(int levels, int layers) {
        if (levels < 0 || levels > 3 || layers < 1 || layers > 3) {
            throw new IllegalArgumentException();
        }
        int[][] numbers = new int[picture.length][picture[0].length];
        for (int y = 0; y < picture.length; y++) {
            for (int x = 0; x < picture[0].length; x++) {
                numbers[y][x] = picture[y][x] - 128;
            }
        }
        bands = split(numbers, levels);
        for (Band b : bands) {
            code(b);
        }
        stream = new ArrayList<>(List.of(picture[0].length, picture.length, levels, layers));
        for (int layer = 1; layer <= layers; layer++) {
            for (int r = 0; r <= levels; r++) {
                packet(bands.subList(r == 0 ? 0 : 3 * r - 2, 3 * r + 1), layer, layers);
            }
        }
        return stream.size();
    }

    static void code(Band b) {
        int greatest = 0;
        for (int[] row : b.numbers) {
            for (int v : row) {
                greatest = Math.max(greatest, Math.abs(v));
            }
        }
        while (1 << b.planes <= greatest) {
            b.planes++;
        }
        b.passes = b.planes == 0 ? 0 : 3 * b.planes - 2;
        b.least.add(0);
        if (b.passes == 0) {
            return;
        }
        Telling telling = new Telling();
        List<Integer> toldBits = new ArrayList<>();
        List<Integer> toldAfter = new ArrayList<>(List.of(0));
        Line both = (context, bit) -> {
            toldBits.add(bit);
            return telling.bit(context, bit);
        };
        new Walk(b, both).passes(b.planes, b.passes, k -> {
            toldAfter.add(toldBits.size());
            return k;
        });
        b.codeword = telling.end();
        for (int passes = 1; passes <= b.passes; passes++) {
            int length = b.least.get(passes - 1);
            while (!readRight(b, length, passes, toldBits.subList(0, toldAfter.get(passes)))) {
                length++;
            }
            b.least.add(length);
        }
    }

    /** Whether from so many bytes these passes give the bits that were told. */
    static boolean readRight(Band b, int length, int passes, List<Integer> due) {
        Reading reading = new Reading(b.codeword.subList(0, length));
        List<Integer> got = new ArrayList<>();
        Band blank = new Band(b.sort, new int[b.high()][b.wide()]);
        Line line = (context, unused) -> {
            int bit = reading.bit(context, 0);
            got.add(bit);
            return bit;
        };
        new Walk(blank, line).passes(b.planes, passes, k -> k);
        return got.equals(due);
    }

    static String binary(int v, int digits) {
        StringBuilder s = new StringBuilder();
        for (int i = digits - 1; i >= 0; i--) {
            s.append(v >> i & 1);
        }
        return s.toString();
    }

    static int logarithm(int n) {
        int l = 0;
        while (2 << l <= n) {
            l++;
        }
        return l;
    }

    void packet(List<Band> of, int layer, int layers) {
        StringBuilder head = new StringBuilder();
        List<Integer> body = new ArrayList<>();
        boolean any = false;
        for (Band b : of) {
            int n = layer * b.passes / layers - b.had;
            if (b.isEmpty()) {
                continue;
            }
            if (n == 0) {
                head.append("0");
                continue;
            }
            any = true;
            head.append("1");
            if (b.had == 0) {
                head.append(binary(b.planes, 4));
            }
            head.append(n == 1 ? "0" : n == 2 ? "10" : n <= 5 ? "11" + binary(n - 3, 2) : "1111" + binary(n - 6, 5));
            int from = b.least.get(b.had);
            int to = b.least.get(b.had + n);
            while (to - from >= 1 << b.width + logarithm(n)) {
                b.width++;
                head.append("1");
            }
            head.append("0");
            head.append(binary(to - from, b.width + logarithm(n)));
            body.addAll(b.codeword.subList(from, to));
            b.had += n;
        }
        String bits = any ? "1" + head : "0";
        while (bits.length() % 8 != 0) {
            bits += "0";
        }
        for (int i = 0; i < bits.length(); i += 8) {
            stream.add(Integer.parseInt(bits.substring(i, i + 8), 2));
        }
        stream.addAll(body);
    }

    // ---- what is told of it

    int stream(int i) {
        return i >= 0 && i < stream.size() ? stream.get(i) : NONE;
    }

    boolean poke(int i, int b) {
        if (stream(i) == NONE || b < 0 || b > 255) {
            return false;
        }
        stream.set(i, b);
        return true;
    }

    private Band at(int b) {
        return b >= 0 && b < bands.size() ? bands.get(b) : null;
    }

    int band(int b, int what) {
        Band band = at(b);
        if (band == null || what < 0 || what > 4) {
            return NONE;
        }
        return List.of(band.wide(), band.high(), band.planes, band.passes, band.codeword.size()).get(what);
    }

    int number(int b, int x, int y) {
        Band band = at(b);
        if (band == null || x < 0 || y < 0 || x >= band.wide() || y >= band.high()) {
            return NONE;
        }
        return band.numbers[y][x];
    }

    int codeword(int b, int i) {
        Band band = at(b);
        return band == null || i < 0 || i >= band.codeword.size() ? NONE : band.codeword.get(i);
    }

    int least(int b, int passes) {
        Band band = at(b);
        return band == null || passes < 0 || passes > band.passes ? NONE : band.least.get(passes);
    }

    int taken(int b) {
        return b >= 0 && b < taken.size() ? taken.get(b) : NONE;
    }

    // ---- decoding

    private String bits;

    private int take(int count) throws Cut {
        if (bits.length() < count) {
            throw new Cut();
        }
        BigInteger v = count == 0 ? BigInteger.ZERO : new BigInteger(bits.substring(0, count), 2);
        bits = bits.substring(count);
        return v.min(BigInteger.valueOf(100000)).intValue();
    }

    int decode(int n) {
        if (n < 4 || n > stream.size()) {
            throw new IllegalArgumentException();
        }
        int wide = stream.get(0);
        int high = stream.get(1);
        int levels = stream.get(2);
        int layers = stream.get(3);
        if (wide < 1 || wide > 8 || high < 1 || high > 8 || levels > 3 || layers < 1 || layers > 3) {
            throw new IllegalArgumentException();
        }
        List<Band> all = split(new int[high][wide], levels);
        int packets = 0;
        int place = 4;
        try {
            for (int layer = 1; layer <= layers; layer++) {
                for (int r = 0; r <= levels; r++) {
                    place = packetFrom(all.subList(r == 0 ? 0 : 3 * r - 2, 3 * r + 1), place, n);
                    packets++;
                }
            }
        } catch (Cut e) {
            // The packets before it are those that are taken.
        } catch (Malformed e) {
            throw new IllegalArgumentException();
        }
        taken = new ArrayList<>();
        for (Band b : all) {
            taken.add(b.taken);
            Walk walk = new Walk(b, new Reading(b.bytes));
            walk.passes(b.planes, b.taken, k -> k);
            for (int y = 0; y < b.high(); y++) {
                for (int x = 0; x < b.wide(); x++) {
                    b.numbers[y][x] = walk.signs[y][x] * walk.sizes[y][x];
                }
            }
        }
        decoded = join(all, levels);
        for (int[] row : decoded) {
            for (int x = 0; x < row.length; x++) {
                row[x] = row[x] + 128 < 0 ? 0 : row[x] + 128 > 255 ? 255 : row[x] + 128;
            }
        }
        return packets;
    }

    /** Where the next packet begins. */
    private int packetFrom(List<Band> of, int place, int n) throws Cut, Malformed {
        StringBuilder s = new StringBuilder();
        for (int i = place; i < n; i++) {
            s.append(binary(stream.get(i), 8));
        }
        bits = s.toString();
        int whole = bits.length();
        int[] passes = new int[of.size()];
        int[] lengths = new int[of.size()];
        if (take(1) == 1) {
            for (int i = 0; i < of.size(); i++) {
                Band b = of.get(i);
                if (b.isEmpty() || take(1) == 0) {
                    continue;
                }
                if (b.taken == 0) {
                    b.planes = take(4);
                    if (b.planes < 1 || b.planes > 12) {
                        throw new Malformed();
                    }
                }
                passes[i] = count();
                if (b.taken + passes[i] > 3 * b.planes - 2) {
                    throw new Malformed();
                }
                while (take(1) == 1) {
                    b.width++;
                }
                lengths[i] = take(b.width + logarithm(passes[i]));
            }
        }
        int at = place + (whole - bits.length() + 7) / 8;
        long end = at;
        for (int length : lengths) {
            end += length;
        }
        if (end > n) {
            throw new Cut();
        }
        for (int i = 0; i < of.size(); i++) {
            of.get(i).taken += passes[i];
            of.get(i).bytes.addAll(stream.subList(at, at + lengths[i]));
            at += lengths[i];
        }
        return at;
    }

    private int count() throws Cut {
        if (take(1) == 0) {
            return 1;
        }
        if (take(1) == 0) {
            return 2;
        }
        int few = take(2);
        return few < 3 ? few + 3 : take(5) + 6;
    }
}
