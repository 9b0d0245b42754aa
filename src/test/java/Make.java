import java.util.ArrayList;
import java.util.List;
import java.util.Random;

/** Objects, pictures and streams made to measure for the tests. */
final class Make {
    private Make() {
    }

    static WaveletStream drawn(int width, int height, int... pixels) {
        WaveletStream w = new WaveletStream();
        w.picture(width, height);
        for (int i = 0; i < pixels.length; i++) {
            w.paint(i % width, i / width, pixels[i]);
        }
        return w;
    }

    static WaveletStream noise(int width, int height, long seed) {
        Random random = new Random(seed);
        int[] pixels = new int[width * height];
        for (int i = 0; i < pixels.length; i++) {
            pixels[i] = random.nextInt(256);
        }
        return drawn(width, height, pixels);
    }

    /** An object whose stream begins with these bytes; behind them there are others. */
    static WaveletStream poked(int... bytes) {
        WaveletStream w = noise(8, 8, 5);
        w.encode(3, 3);
        for (int i = 0; i < bytes.length; i++) {
            w.poke(i, bytes[i]);
        }
        return w;
    }

    /** Bits as bytes, the highest first, the last byte filled with 0; blanks are for the eye. */
    static int[] bits(String text) {
        String plain = text.replace(" ", "");
        int[] bytes = new int[(plain.length() + 7) / 8];
        for (int i = 0; i < plain.length(); i++) {
            bytes[i / 8] |= (plain.charAt(i) - '0') << (7 - i % 8);
        }
        return bytes;
    }

    static int[] join(int[]... parts) {
        List<Integer> all = new ArrayList<>();
        for (int[] part : parts) {
            for (int b : part) {
                all.add(b);
            }
        }
        return ints(all);
    }

    static int[] ints(List<Integer> list) {
        int[] out = new int[list.size()];
        for (int i = 0; i < out.length; i++) {
            out[i] = list.get(i);
        }
        return out;
    }

    /** Numbers in rows: "1 0 / 0 -1". */
    static int[][] rows(String text) {
        String[] lines = text.split("/");
        int[][] rows = new int[lines.length][];
        for (int y = 0; y < lines.length; y++) {
            String[] words = lines[y].trim().split("\\s+");
            rows[y] = new int[words.length];
            for (int x = 0; x < words.length; x++) {
                rows[y][x] = Integer.parseInt(words[x]);
            }
        }
        return rows;
    }

    /** Bytes: "0b ff 7f". */
    static int[] bytes(String text) {
        String[] words = text.trim().isEmpty() ? new String[0] : text.trim().split("\\s+");
        int[] bytes = new int[words.length];
        for (int i = 0; i < bytes.length; i++) {
            bytes[i] = Integer.parseInt(words[i], 16);
        }
        return bytes;
    }

    /** A picture, without levels for LL, with one for others, whose bands are 0 but for this one. */
    static WaveletStream ofBand(String kind, int[][] numbers) {
        int[][] zero = new int[numbers.length][numbers[0].length];
        if (kind.equals("LL")) {
            return encoded(numbers, 0);
        }
        return ofBands(zero, kind.equals("HL") ? numbers : zero, kind.equals("LH") ? numbers : zero,
            kind.equals("HH") ? numbers : zero);
    }

    /** A picture of one level with these bands. */
    static WaveletStream ofBands(int[][] ll, int[][] hl, int[][] lh, int[][] hh) {
        return encoded(Reference.join(List.of(new Reference.Band("LL", ll), new Reference.Band("HL", hl),
            new Reference.Band("LH", lh), new Reference.Band("HH", hh)), 1), 1);
    }

    /** A picture of 8 x 8 whose bands, of so many levels, are 0 but for this one. */
    static WaveletStream deep(int levels, int b, int[][] numbers) {
        String[] kinds = {"HH", "HL", "LH"};
        List<Reference.Band> bands = new ArrayList<>();
        for (int k = 0; k <= 3 * levels; k++) {
            int side = k == 0 ? 8 >> levels : 8 >> levels - (k - 1) / 3;
            bands.add(new Reference.Band(k == 0 ? "LL" : kinds[k % 3], k == b ? numbers : new int[side][side]));
        }
        return encoded(Reference.join(bands, levels), levels);
    }

    private static WaveletStream encoded(int[][] numbers, int levels) {
        WaveletStream w = new WaveletStream();
        w.picture(numbers[0].length, numbers.length);
        for (int y = 0; y < numbers.length; y++) {
            for (int x = 0; x < numbers[0].length; x++) {
                w.paint(x, y, numbers[y][x] + 128);
            }
        }
        w.encode(levels, 1);
        return w;
    }

    static int bandOf(String kind) {
        return List.of("LL", "HL", "LH", "HH").indexOf(kind);
    }

    static int[] codeword(WaveletStream w, int b) {
        int[] bytes = new int[Math.max(0, w.band(b, 4))];
        for (int i = 0; i < bytes.length; i++) {
            bytes[i] = w.codeword(b, i);
        }
        return bytes;
    }

    static int[] stream(WaveletStream w) {
        List<Integer> bytes = new ArrayList<>();
        for (int i = 0; w.stream(i) != WaveletStream.NONE; i++) {
            bytes.add(w.stream(i));
        }
        return ints(bytes);
    }

    static int[] decoded(WaveletStream w, int width, int height) {
        int[] pixels = new int[width * height];
        for (int i = 0; i < pixels.length; i++) {
            pixels[i] = w.decoded(i % width, i / width);
        }
        return pixels;
    }

    /** The bits that tell so many passes. */
    static String count(int n) {
        return n == 1 ? "0" : n == 2 ? "10" : n <= 5 ? "11" + Reference.binary(n - 3, 2)
            : "1111" + Reference.binary(n - 6, 5);
    }

    /** A stream of one packet: one band without levels, its planes, its passes and its bytes. */
    static int[] oneBand(int width, int height, int planes, int passes, int... code) {
        int wide = 3 + Reference.logarithm(passes);
        StringBuilder growth = new StringBuilder();
        while (code.length >= 1 << wide) {
            wide++;
            growth.append("1");
        }
        String head = "1 1" + Reference.binary(planes, 4) + count(passes) + growth + "0"
            + Reference.binary(code.length, wide);
        return join(new int[] {width, height, 0, 1}, bits(head), code);
    }
}
