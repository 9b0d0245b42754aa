import java.util.Arrays;
import java.util.Random;

/** Promise by promise: ordinary inputs, the edges that the document names, and wrong inputs. */
final class PromiseTests {
    private static final int NONE = WaveletStream.NONE;
    private static final int[] WRONG_SIDES = {0, 9, -1, Integer.MIN_VALUE, Integer.MAX_VALUE};
    private static final int[] FAR = {-1, 10, 11, 1000, Integer.MIN_VALUE, Integer.MAX_VALUE};

    private final Check check;

    private PromiseTests(Check check) {
        this.check = check;
    }

    static void run(Check check) {
        PromiseTests t = new PromiseTests(check);
        t.newObject();
        t.pictureOfEverySize();
        t.pictureLeavesStreamAndDecoded();
        t.paintAndPixel();
        t.encodeOfOnePixel();
        t.encodeOfNothingToTell();
        t.encodeRefuses();
        t.encodeInLayers();
        t.headGrowsItsWidth();
        t.streamAndPoke();
        t.bandShapes();
        t.bandPlanesAndPasses();
        t.waveletOfRows();
        t.waveletOfColumnsFirst();
        t.codewords();
        t.carriesThatMakeFf();
        t.leastLengths();
        t.decodeGivesThePictureItself();
        t.manyPicturesInOneObject();
        t.decodeOfBeginnings();
        t.decodeRefuses();
        t.malformedFirstBytes();
        t.malformedPlanes();
        t.malformedPasses();
        t.packetsThatAreCut();
        t.passesOverTwoLayers();
        t.pixelsAreCutToTheirBounds();
        t.readingFarAboveItsBounds();
        t.takenOfBands();
        t.differences();
    }

    private void streamIs(WaveletStream w, int... due) {
        for (int i = 0; i < due.length; i++) {
            check.equal("stream(" + i + ")", w.stream(i), due[i]);
        }
        check.equal("stream(" + due.length + ")", w.stream(due.length), NONE);
    }

    private void bandIs(WaveletStream w, int b, int width, int height) {
        check.equal("band(" + b + ", 0)", w.band(b, 0), width);
        check.equal("band(" + b + ", 1)", w.band(b, 1), height);
    }

    private void newObject() {
        check.subject("promise 1");
        WaveletStream w = new WaveletStream();
        check.equal("pixel(0, 0)", w.pixel(0, 0), 0);
        check.equal("pixel(1, 0)", w.pixel(1, 0), NONE);
        check.equal("pixel(0, 1)", w.pixel(0, 1), NONE);
        check.equal("stream(0)", w.stream(0), NONE);
        check.that("poke(0, 1)", !w.poke(0, 1));
        for (int what = 0; what < 5; what++) {
            check.equal("band(0, " + what + ")", w.band(0, what), NONE);
        }
        check.equal("number(0, 0, 0)", w.number(0, 0, 0), NONE);
        check.equal("codeword(0, 0)", w.codeword(0, 0), NONE);
        check.equal("least(0, 0)", w.least(0, 0), NONE);
        check.equal("decoded(0, 0)", w.decoded(0, 0), NONE);
        check.equal("taken(0)", w.taken(0), NONE);
        check.equal("difference()", w.difference(), NONE);
        check.refuses("decode(4)", () -> w.decode(4));
        check.refuses("decode(0)", () -> w.decode(0));
        check.equal("NONE", NONE, -100000);
    }

    private void pictureOfEverySize() {
        check.subject("promise 2");
        WaveletStream w = new WaveletStream();
        for (int width = 1; width <= 8; width++) {
            for (int height = 1; height <= 8; height++) {
                w.picture(width, height);
                check.equal("the last pixel", w.pixel(width - 1, height - 1), 0);
                check.equal("one too far right", w.pixel(width, 0), NONE);
                check.equal("one too far down", w.pixel(0, height), NONE);
                w.paint(width - 1, height - 1, 200);
            }
        }
        for (int side : WRONG_SIDES) {
            check.refuses("picture(" + side + ", 1)", () -> w.picture(side, 1));
            check.refuses("picture(1, " + side + ")", () -> w.picture(1, side));
        }
        check.equal("what was there before stays", w.pixel(7, 7), 200);
        w.picture(8, 8);
        check.equal("a new picture is 0", w.pixel(7, 7), 0);
    }

    private void pictureLeavesStreamAndDecoded() {
        check.subject("promise 2");
        WaveletStream w = Make.drawn(2, 1, 10, 20);
        int size = w.encode(1, 1);
        w.decode(size);
        w.picture(3, 3);
        check.equal("stream(0)", w.stream(0), 2);
        check.equal("stream's last byte stays", w.stream(size - 1) == NONE ? 1 : 0, 0);
        check.equal("number(1, 0, 0)", w.number(1, 0, 0), 10);
        check.equal("decoded(1, 0)", w.decoded(1, 0), 20);
        check.equal("taken(1)", w.taken(1), w.band(1, 3));
        w.picture(2, 1);
        check.equal("difference()", w.difference(), 20);
    }

    private void paintAndPixel() {
        check.subject("promises 3 and 4");
        WaveletStream w = Make.drawn(3, 2);
        w.paint(2, 1, 255);
        w.paint(0, 1, 7);
        w.paint(0, 1, 0);
        w.paint(1, 0, 9);
        check.equal("pixel(2, 1)", w.pixel(2, 1), 255);
        check.equal("pixel(0, 1)", w.pixel(0, 1), 0);
        check.equal("pixel(1, 0)", w.pixel(1, 0), 9);
        check.equal("pixel(0, 0)", w.pixel(0, 0), 0);
        int[][] wrong = {{3, 0, 1}, {0, 2, 1}, {-1, 0, 1}, {0, -1, 1}, {1, 0, 256}, {1, 0, -1},
            {Integer.MAX_VALUE, 0, 1}, {0, Integer.MIN_VALUE, 1}, {1, 0, Integer.MAX_VALUE}, {1, 0, Integer.MIN_VALUE}};
        for (int[] p : wrong) {
            check.refuses("paint(" + p[0] + ", " + p[1] + ", " + p[2] + ")", () -> w.paint(p[0], p[1], p[2]));
        }
        check.equal("pixel(1, 0) stays", w.pixel(1, 0), 9);
        for (int far : FAR) {
            check.equal("pixel(" + far + ", 0)", w.pixel(far, 0), NONE);
            check.equal("pixel(0, " + far + ")", w.pixel(0, far), NONE);
        }
    }

    /** One pixel of 0 is -128: 8 planes, 22 passes; the head is 1, 1, 1000, 1111 10000, 0, 0000001. */
    private void encodeOfOnePixel() {
        check.subject("promise 5");
        WaveletStream w = new WaveletStream();
        check.equal("encode(0, 1)", w.encode(0, 1), 8);
        streamIs(w, 1, 1, 0, 1, 0xe3, 0xe0, 0x02, 0x07);
        check.equal("encode(3, 1)", w.encode(3, 1), 11);
        streamIs(w, 1, 1, 3, 1, 0xe3, 0xe0, 0x02, 0x07, 0, 0, 0);
    }

    private void encodeOfNothingToTell() {
        check.subject("promise 5");
        for (int levels = 0; levels <= 3; levels++) {
            for (int layers = 1; layers <= 3; layers++) {
                WaveletStream w = Make.drawn(2, 2, 128, 128, 128, 128);
                int due = 4 + layers * (levels + 1);
                check.equal("encode(" + levels + ", " + layers + ")", w.encode(levels, layers), due);
                check.equal("stream(2)", w.stream(2), levels);
                check.equal("stream(3)", w.stream(3), layers);
                for (int i = 4; i < due; i++) {
                    check.equal("stream(" + i + ")", w.stream(i), 0);
                }
                check.equal("decode", w.decode(due), layers * (levels + 1));
            }
        }
    }

    private void encodeRefuses() {
        check.subject("promise 5");
        WaveletStream w = new WaveletStream();
        w.encode(0, 1);
        for (int levels : new int[] {-1, 4, Integer.MIN_VALUE, Integer.MAX_VALUE}) {
            check.refuses("encode(" + levels + ", 1)", () -> w.encode(levels, 1));
        }
        for (int layers : new int[] {-1, 0, 4, Integer.MIN_VALUE, Integer.MAX_VALUE}) {
            check.refuses("encode(0, " + layers + ")", () -> w.encode(0, layers));
        }
        streamIs(w, 1, 1, 0, 1, 0xe3, 0xe0, 0x02, 0x07);
        check.equal("the band stays", w.band(0, 3), 22);
    }

    /** 22 passes in three layers: 7, 14, 22; in two: 11, 22; 4 passes in three: 1, 2, 4. */
    private void encodeInLayers() {
        check.subject("promise 5");
        WaveletStream w = new WaveletStream();
        int size = w.encode(0, 3);
        int[] due = {7, 14, 22};
        int packets = 0;
        for (int n = 4; n <= size; n++) {
            int now = w.decode(n);
            check.that("packets only grow", now == packets || now == packets + 1);
            packets = now;
            check.equal("taken(0) of " + n, w.taken(0), packets == 0 ? 0 : due[packets - 1]);
        }
        check.equal("packets", packets, 3);
        // 1, 1, 1000, 1111 00001, 0, 00001 and one byte; then 1, 1, 1111 00001, 0, 00000; then n is 8
        streamIs(w, 1, 1, 0, 3, 0xe3, 0xc2, 0x08, 0x07, 0xfc, 0x20, 0x00, 0xfc, 0x40, 0x00);
        WaveletStream v = Make.drawn(1, 1, 131);
        size = v.encode(0, 3);
        v.decode(size);
        check.equal("planes of 3", v.band(0, 2), 2);
        check.equal("taken in the end", v.taken(0), 4);
        // 1, 1, 0010, 0, 0 and 001; then 1, 1, 0, 0, 000; then 1, 1, 10, 0, 0000
        check.equal("stream(4)", v.stream(4), 0xc8);
        check.equal("stream(5)", v.stream(5), 0x20);
        check.equal("stream(7)", v.stream(7), 0xc0);
        check.equal("stream(8)", v.stream(8), 0xe0);
        check.equal("stream(9)", v.stream(9), 0);
        check.equal("stream(10)", v.stream(10), NONE);
    }

    /** With noise there are 64 and more bytes of 22 passes: 7 bits, 3 and the logarithm 4, hold up to 127. */
    private void headGrowsItsWidth() {
        check.subject("promise 5");
        WaveletStream w = Make.noise(8, 8, 1);
        int size = w.encode(0, 1);
        int bytes = w.least(0, 22);
        check.equal("planes", w.band(0, 2), 8);
        check.that("64 to 127 bytes", bytes >= 64 && bytes < 128);
        check.equal("size", size, 4 + 3 + bytes);
        check.equal("stream(6)", w.stream(6), bytes << 1);
        // A band of few passes and many bytes: 0 or 1 less than the middle gives 1 plane and 1 pass.
        Random random = new Random(7);
        WaveletStream v = Make.drawn(8, 8);
        for (int i = 0; i < 64; i++) {
            v.paint(i % 8, i / 8, 127 + random.nextInt(3));
        }
        size = v.encode(0, 1);
        bytes = v.least(0, 1);
        check.equal("passes", v.band(0, 3), 1);
        check.that("16 to 31 bytes", bytes >= 16 && bytes < 32);
        // 1, 1, 0001, 0, grows by two: 1, 1, 0, then five bits
        check.equal("stream(4)", v.stream(4), 0xc5);
        check.equal("stream(5)", v.stream(5), 0x80 | bytes << 1);
        check.equal("size", size, 6 + bytes);
        v.decode(size);
        check.equal("difference()", v.difference(), 0);
    }

    private void streamAndPoke() {
        check.subject("promises 6 and 7");
        WaveletStream w = new WaveletStream();
        w.encode(0, 1);
        check.equal("stream(-1)", w.stream(-1), NONE);
        check.equal("stream(far)", w.stream(Integer.MAX_VALUE), NONE);
        check.equal("stream(least int)", w.stream(Integer.MIN_VALUE), NONE);
        check.that("poke(-1, 0)", !w.poke(-1, 0));
        check.that("poke(8, 0)", !w.poke(8, 0));
        check.that("poke(7, -1)", !w.poke(7, -1));
        check.that("poke(7, 256)", !w.poke(7, 256));
        check.equal("stream(7)", w.stream(7), 7);
        check.that("poke(7, 255)", w.poke(7, 255));
        check.equal("stream(7)", w.stream(7), 255);
        check.that("poke(7, 0)", w.poke(7, 0));
        check.equal("stream(7)", w.stream(7), 0);
        check.equal("the codeword stays", w.codeword(0, 0), 7);
        w.encode(0, 1);
        check.equal("a new stream", w.stream(7), 7);
    }

    private void bandShapes() {
        check.subject("promise 8");
        WaveletStream w = Make.noise(5, 4, 2);
        w.encode(2, 2);
        bandIs(w, 0, 2, 1);
        bandIs(w, 1, 1, 1);
        bandIs(w, 2, 2, 1);
        bandIs(w, 3, 1, 1);
        bandIs(w, 4, 2, 2);
        bandIs(w, 5, 3, 2);
        bandIs(w, 6, 2, 2);
        bandIs(w, 7, NONE, NONE);
        w.picture(1, 7);
        w.encode(3, 1);
        bandIs(w, 0, 1, 1);
        bandIs(w, 1, 0, 1);
        bandIs(w, 2, 1, 1);
        bandIs(w, 3, 0, 1);
        bandIs(w, 5, 1, 2);
        bandIs(w, 8, 1, 3);
        bandIs(w, 9, 0, 3);
        check.equal("planes of an empty band", w.band(9, 2), 0);
        check.equal("passes of an empty band", w.band(9, 3), 0);
        check.equal("bytes of an empty band", w.band(9, 4), 0);
        check.equal("least(9, 0)", w.least(9, 0), 0);
        check.equal("least(9, 1)", w.least(9, 1), NONE);
        w.picture(8, 8);
        w.encode(0, 1);
        bandIs(w, 0, 8, 8);
        for (int far : FAR) {
            check.equal("band(" + far + ", 0)", w.band(far, 0), NONE);
            check.equal("band(0, " + far + ")", w.band(0, far), NONE);
        }
        check.equal("band(0, 5)", w.band(0, 5), NONE);
        check.equal("band(1, 0)", w.band(1, 0), NONE);
    }

    private void bandPlanesAndPasses() {
        check.subject("promise 8");
        int[] pixels = {128, 129, 127, 130, 126, 131, 132, 255, 0, 64, 65};
        int[] planes = {0, 1, 1, 2, 2, 2, 3, 7, 8, 7, 6};
        for (int i = 0; i < pixels.length; i++) {
            WaveletStream w = Make.drawn(1, 1, pixels[i]);
            w.encode(0, 1);
            check.equal("planes of " + pixels[i], w.band(0, 2), planes[i]);
            check.equal("passes of " + pixels[i], w.band(0, 3), planes[i] == 0 ? 0 : 3 * planes[i] - 2);
        }
    }

    private void waveletOfRows() {
        check.subject("promise 9");
        WaveletStream w = Make.drawn(2, 1, 10, 20);
        w.encode(1, 1);
        check.equal("s of two", w.number(0, 0, 0), -113);
        check.equal("d of two", w.number(1, 0, 0), 10);
        w = Make.drawn(1, 2, 10, 20);
        w.encode(1, 1);
        check.equal("s of two in a column", w.number(0, 0, 0), -113);
        check.equal("d of two in a column", w.number(2, 0, 0), 10);
        check.equal("HL is empty", w.number(1, 0, 0), NONE);
        // -128, 127, -121: half of -249 is -125, so d is 252; a fourth of 506 is 126
        w = Make.drawn(3, 1, 0, 255, 7);
        w.encode(1, 1);
        check.equal("s(0) of three", w.number(0, 0, 0), -2);
        check.equal("s(1) of three", w.number(0, 1, 0), 5);
        check.equal("d(0) of three", w.number(1, 0, 0), 252);
        // 4, 0, 1, 9, 0 (and 128): d is -2 and 9; s(1) has a fourth of -2 + 9 + 2
        w = Make.drawn(5, 1, 132, 128, 129, 137, 128);
        w.encode(1, 1);
        check.equal("d(0) of five", w.number(1, 0, 0), -2);
        check.equal("d(1) of five", w.number(1, 1, 0), 9);
        check.equal("s(0) of five", w.number(0, 0, 0), 3);
        check.equal("s(1) of five", w.number(0, 1, 0), 3);
        check.equal("s(2) of five", w.number(0, 2, 0), 5);
        check.equal("number(0, 3, 0)", w.number(0, 3, 0), NONE);
        check.equal("number(0, 0, 1)", w.number(0, 0, 1), NONE);
        check.equal("number(0, -1, 0)", w.number(0, -1, 0), NONE);
        check.equal("number(0, 0, -1)", w.number(0, 0, -1), NONE);
        check.equal("number(4, 0, 0)", w.number(4, 0, 0), NONE);
        for (int far : FAR) {
            check.equal("number(" + far + ", 0, 0)", w.number(far, 0, 0), NONE);
            check.equal("number(0, " + far + ", 0)", w.number(0, far, 0), NONE);
            check.equal("number(0, 0, " + far + ")", w.number(0, 0, far), NONE);
        }
    }

    /** 0 0, 0 1, 1 0 over 128: the columns first give s 0 -> 1 -> 0 in other places than the rows first. */
    private void waveletOfColumnsFirst() {
        check.subject("promise 9");
        // numbers a b / c d = 0 0 / 1 0: columns: s 0 + (1 + 1 + 2) / 4 = 1, d 1; s 0, d 0
        // rows of 1 0: d -1, s 1 + 0 = 1; rows of 1 0: the same. Rows first: 0 0 and 1 0 -> s 1, d -1.
        WaveletStream w = Make.drawn(2, 2, 128, 128, 129, 128);
        w.encode(1, 1);
        check.equal("LL", w.number(0, 0, 0), 1);
        check.equal("HL", w.number(1, 0, 0), -1);
        check.equal("LH", w.number(2, 0, 0), 1);
        check.equal("HH", w.number(3, 0, 0), -1);
        // numbers 0 1 / 0 0: columns: s 0, d 0; d -1, s 1 + 0 = 1. Rows of 0 1: d 1, s 0 + 1 = 1;
        // of 0 -1: d -1, s 0 + 0 = 0. Rows first there were 1 1 / 0 0: s 1, d -1; s 1, d -1.
        w = Make.drawn(2, 2, 128, 129, 128, 128);
        w.encode(1, 1);
        check.equal("LL", w.number(0, 0, 0), 1);
        check.equal("HL", w.number(1, 0, 0), 1);
        check.equal("LH", w.number(2, 0, 0), 0);
        check.equal("HH", w.number(3, 0, 0), -1);
        check.equal("decode", w.decode(w.encode(1, 1)), 2);
        check.equal("difference()", w.difference(), 0);
        check.equal("without levels", drawnNumber(), -28);
    }

    private static int drawnNumber() {
        WaveletStream w = Make.drawn(2, 2, 0, 0, 100, 0);
        w.encode(0, 1);
        return w.number(0, 0, 1);
    }

    private void codewords() {
        check.subject("promise 10");
        WaveletStream w = new WaveletStream();
        w.encode(0, 1);
        check.equal("codeword(0, 0)", w.codeword(0, 0), 7);
        check.equal("codeword(0, 1)", w.codeword(0, 1), NONE);
        check.equal("codeword(0, -1)", w.codeword(0, -1), NONE);
        for (int far : FAR) {
            check.equal("codeword(" + far + ", 0)", w.codeword(far, 0), NONE);
        }
        WaveletStream v = Make.noise(8, 8, 3);
        v.encode(1, 1);
        for (int b = 0; b < 4; b++) {
            int bytes = v.band(b, 4);
            check.that("a codeword does not end with ff", bytes > 0 && v.codeword(b, bytes - 1) != 0xff);
            check.equal("behind the codeword", v.codeword(b, bytes), NONE);
        }
        check.equal("codeword(4, 0)", v.codeword(4, 0), NONE);
    }

    /** Pictures (found by trying) in whose codewords a carry makes the last byte ff. */
    private void carriesThatMakeFf() {
        check.subject("promise 10");
        int[][] pictures = {
            {0, 4, 1, 80, 163, 53, 214},
            {0, 1, 5, 169, 35, 150, 217, 171},
            {1, 5, 1, 62, 150, 216, 170, 104},
            {2, 6, 1, 9, 173, 12, 123, 17, 94},
            {2, 3, 2, 139, 255, 159, 233, 100, 140}};
        for (int[] p : pictures) {
            Reference due = new Reference();
            WaveletStream w = Make.drawn(p[1], p[2], Arrays.copyOfRange(p, 3, p.length));
            due.picture(p[1], p[2]);
            for (int i = 3; i < p.length; i++) {
                due.paint((i - 3) % p[1], (i - 3) / p[1], p[i]);
            }
            int size = due.encode(p[0], 1);
            check.equal("encode(" + p[0] + ", 1)", w.encode(p[0], 1), size);
            boolean anyFf = false;
            for (int b = 0; b <= 3 * p[0]; b++) {
                for (int i = 0; i <= due.band(b, 4); i++) {
                    check.equal("codeword(" + b + ", " + i + ")", w.codeword(b, i), due.codeword(b, i));
                    anyFf |= w.codeword(b, i) == 0xff;
                }
            }
            check.that("there is a byte ff", anyFf);
            w.decode(size);
            check.equal("difference()", w.difference(), 0);
        }
    }

    private void leastLengths() {
        check.subject("promise 11");
        WaveletStream w = Make.noise(8, 8, 4);
        w.encode(1, 3);
        for (int b = 0; b < 4; b++) {
            int passes = w.band(b, 3);
            check.equal("least(" + b + ", 0)", w.least(b, 0), 0);
            for (int n = 1; n <= passes; n++) {
                check.that("least lengths do not fall", w.least(b, n) >= w.least(b, n - 1));
            }
            check.that("not above the codeword", w.least(b, passes) <= w.band(b, 4));
            check.equal("one too many", w.least(b, passes + 1), NONE);
            check.equal("least(" + b + ", -1)", w.least(b, -1), NONE);
        }
        check.equal("least(4, 0)", w.least(4, 0), NONE);
        check.equal("least(-1, 0)", w.least(-1, 0), NONE);
        check.equal("least(0, far)", w.least(0, Integer.MAX_VALUE), NONE);
        check.equal("least(0, least int)", w.least(0, Integer.MIN_VALUE), NONE);
        WaveletStream v = Make.drawn(1, 1, 128);
        v.encode(0, 1);
        check.equal("least of no passes", v.least(0, 0), 0);
        check.equal("least of one too many", v.least(0, 1), NONE);
    }

    private void decodeGivesThePictureItself() {
        check.subject("promise 12");
        for (int seed = 0; seed < 60; seed++) {
            WaveletStream w = Make.noise(1 + seed % 8, 1 + seed / 8, seed);
            for (int levels = 0; levels <= 3; levels++) {
                int layers = 1 + (seed + levels) % 3;
                int size = w.encode(levels, layers);
                check.equal("decode(" + size + ")", w.decode(size), layers * (levels + 1));
                check.equal("difference()", w.difference(), 0);
                for (int b = 0; b <= 3 * levels; b++) {
                    check.equal("taken(" + b + ")", w.taken(b), w.band(b, 3));
                }
            }
        }
    }

    /** 320 calls of one object: nothing of an earlier picture is left in a later one. */
    private void manyPicturesInOneObject() {
        check.subject("promise 12");
        Random random = new Random(11);
        WaveletStream w = new WaveletStream();
        for (int k = 0; k < 40; k++) {
            int width = 1 + random.nextInt(8);
            int height = k % 4 == 0 ? 8 : 1 + random.nextInt(8);
            w.picture(width, height);
            for (int i = 0; i < 4; i++) {
                w.paint(random.nextInt(width), random.nextInt(height), random.nextInt(256));
            }
            int levels = random.nextInt(4);
            int layers = 1 + random.nextInt(3);
            check.equal("decode", w.decode(w.encode(levels, layers)), layers * (levels + 1));
            check.equal("difference()", w.difference(), 0);
        }
        WaveletStream v = Make.noise(8, 8, 12);
        for (int k = 0; k < 200; k++) {
            check.equal("decode", v.decode(v.encode(0, 1)), 1);
            check.equal("difference()", v.difference(), 0);
        }
    }

    private void decodeOfBeginnings() {
        check.subject("promise 12");
        WaveletStream w = Make.noise(7, 6, 9);
        int size = w.encode(2, 3);
        int before = 0;
        for (int n = 4; n <= size; n++) {
            int packets = w.decode(n);
            check.that("a longer beginning has no fewer packets", packets >= before);
            check.that("decoded is a pixel", w.decoded(6, 5) >= 0 && w.decoded(6, 5) <= 255);
            before = packets;
        }
        check.equal("all packets", before, 9);
        w.decode(4);
        for (int i = 0; i < 42; i++) {
            check.equal("decoded of nothing told", w.decoded(i % 7, i / 7), 128);
        }
        check.equal("decoded(7, 0)", w.decoded(7, 0), NONE);
        check.equal("decoded(0, 6)", w.decoded(0, 6), NONE);
        check.equal("decoded(-1, 0)", w.decoded(-1, 0), NONE);
        check.equal("decoded(0, far)", w.decoded(0, Integer.MAX_VALUE), NONE);
    }

    private void decodeRefuses() {
        check.subject("promise 12");
        WaveletStream w = new WaveletStream();
        w.encode(0, 1);
        w.decode(8);
        for (int n : new int[] {3, 0, -1, 9, Integer.MIN_VALUE, Integer.MAX_VALUE}) {
            check.refuses("decode(" + n + ")", () -> w.decode(n));
        }
        check.equal("what was decoded before stays", w.decoded(0, 0), 0);
        check.equal("taken(0) stays", w.taken(0), 22);
    }

    private void malformedFirstBytes() {
        check.subject("promise 12");
        int[][] wrong = {{0, 0}, {0, 9}, {0, 255}, {1, 0}, {1, 9}, {2, 4}, {2, 255}, {3, 0}, {3, 4}, {3, 255}};
        for (int[] p : wrong) {
            WaveletStream w = Make.noise(2, 3, 6);
            int size = w.encode(1, 2);
            w.decode(size);
            w.poke(p[0], p[1]);
            check.refuses("decode(4) with byte " + p[0] + " as " + p[1], () -> w.decode(4));
            check.refuses("decode(all) with byte " + p[0] + " as " + p[1], () -> w.decode(size));
            check.equal("what was decoded before stays", w.difference(), 0);
            check.equal("taken(3) stays", w.taken(3), w.band(3, 3));
        }
        int[][] right = {{0, 1}, {0, 8}, {1, 1}, {1, 8}, {2, 0}, {2, 3}, {3, 1}, {3, 3}};
        for (int[] p : right) {
            WaveletStream w = Make.noise(2, 3, 6);
            w.encode(1, 2);
            w.poke(p[0], p[1]);
            check.equal("decode(4) with byte " + p[0] + " as " + p[1], w.decode(4), 0);
            check.equal("its last pixel", w.decoded(w.stream(0) - 1, w.stream(1) - 1), 128);
            check.equal("its last band", w.taken(3 * w.stream(2)), 0);
            check.equal("behind its last band", w.taken(3 * w.stream(2) + 1), NONE);
        }
    }

    /** The first byte of the head: 1, 1, four bits of planes, and two more. */
    private void malformedPlanes() {
        check.subject("promise 12");
        for (int planes = 0; planes <= 15; planes++) {
            WaveletStream w = Make.poked(1, 1, 0, 1, 0xc0 | planes << 2 | 1);
            if (planes == 0 || planes > 12) {
                check.refuses(planes + " planes", () -> w.decode(5));
                check.refuses(planes + " planes", () -> w.decode(20));
                check.equal("before the bits are there", w.decode(4), 0);
            } else {
                check.equal(planes + " planes, cut", w.decode(5), 0);
            }
        }
        // HL has nothing, LH has its planes in the second byte of the head: only there they are wrong.
        // band 0: 0; HL 1, planes 1, passes 1, no growth, length 000; LH 1, planes 1111
        WaveletStream w = Make.poked(2, 2, 1, 1, 0x00, 0xc4, 0x1f, 0xff);
        check.equal("planes of LH cut", w.decode(6), 1);
        check.refuses("planes of LH", () -> w.decode(7));
    }

    private void malformedPasses() {
        check.subject("promise 12");
        // 1 plane has 1 pass: 1, 1, 0001, then 10 tells two.
        check.refuses("2 passes of 1 plane", () -> Make.poked(1, 1, 0, 1, 0xc6).decode(5));
        // 11 is not all of it: only the next byte tells that there are three.
        check.equal("11 alone", Make.poked(1, 1, 0, 1, 0xc7, 0x00).decode(5), 0);
        check.refuses("3 passes of 1 plane", () -> Make.poked(1, 1, 0, 1, 0xc7, 0x00).decode(6));
        // 2 planes have 4 passes: 11 and 01 tell four, 11 and 10 tell five.
        check.equal("4 passes of 2 planes", Make.poked(1, 1, 0, 1, 0xcb, 0x40).decode(6), 1);
        check.refuses("5 passes of 2 planes", () -> Make.poked(1, 1, 0, 1, 0xcb, 0x80).decode(6));
        // 1111 and 00000 tell six; the five bits end in the third byte for 3 planes (7 passes).
        check.equal("7 passes of 3 planes", Make.poked(1, 1, 0, 1, 0xcf, 0xc2, 0x00).decode(7), 1);
        check.refuses("8 passes of 3 planes", () -> Make.poked(1, 1, 0, 1, 0xcf, 0xc4, 0x00).decode(6));
        check.equal("34 passes of 12 planes", Make.poked(1, 1, 0, 1, 0xf3, 0xf8, 0x00).decode(7), 1);
        check.refuses("35 passes of 12 planes", () -> Make.poked(1, 1, 0, 1, 0xf3, 0xfa, 0x00).decode(6));
        // Over two layers: 1 plane, 1 pass, length 0; then one more pass.
        check.refuses("1 pass and 1 of 1 plane", () -> Make.poked(1, 1, 0, 2, 0xc4, 0x00, 0xc0).decode(7));
        check.equal("the first of them", Make.poked(1, 1, 0, 2, 0xc4, 0x00, 0xc0).decode(6), 1);
        // Also when the packet's bytes are not there: lengths of 7, then more passes than there are.
        check.refuses("a head whose bytes are cut", () -> Make.poked(2, 1, 1, 1, 0xc4, 0x00, 0xc6).decode(7));
    }

    private void packetsThatAreCut() {
        check.subject("promise 12");
        // 1, 1, 0001, 0, 0, 010: two bytes behind the head
        int[] stream = {1, 1, 0, 1, 0xc4, 0x40, 0x12, 0x34};
        for (int n = 4; n <= 8; n++) {
            WaveletStream w = Make.poked(stream);
            check.equal("decode(" + n + ")", w.decode(n), n == 8 ? 1 : 0);
            check.equal("taken(0)", w.taken(0), n == 8 ? 1 : 0);
        }
        check.equal("bytes behind the last packet", Make.poked(stream).decode(20), 1);
        check.equal("filled with other bits than 0", Make.poked(1, 1, 0, 1, 0x7f).decode(5), 1);
        // The width grows as long as there are bits 1; it never ends.
        int[] grows = new int[40];
        Arrays.fill(grows, 0xff);
        System.arraycopy(new int[] {1, 1, 0, 1, 0xc5}, 0, grows, 0, 5);
        check.equal("a width without an end", Make.poked(grows).decode(40), 0);
        // It grows by 41: forty-four bits of length, of which only the last one is 1.
        int[] wide = {1, 1, 0, 1, 0xc5, 0xff, 0xff, 0xff, 0xff, 0xff, 0, 0, 0, 0, 0, 0x08, 0x5a};
        check.equal("a width of 44", Make.poked(wide).decode(17), 1);
        check.equal("a width of 44, cut", Make.poked(wide).decode(16), 0);
        // Forty-four bits of length that begin with a 1: more bytes than an int can count.
        wide[10] = 0x40;
        check.equal("a length beyond an int", Make.poked(wide).decode(17), 0);
        // A head that says that there is something, and for each band that there is nothing.
        check.equal("a head without a band", Make.poked(1, 1, 0, 1, 0x80).decode(5), 1);
        check.equal("a head of empty bands alone", Make.poked(1, 1, 1, 1, 0x00, 0x80).decode(6), 2);
    }

    /** The planes are told once, and the width of lengths stays grown. */
    private void passesOverTwoLayers() {
        check.subject("promise 12");
        // 1, 1, 0010, 0, 10, 0001 and a byte; then 1, 1, 10, 0, and 5 bits of length, 00001, and a byte
        int[] stream = {1, 1, 0, 2, 0xc9, 0x08, 0x55, 0xe0, 0x40, 0x66};
        check.equal("first layer", Make.poked(stream).decode(7), 1);
        check.equal("second layer cut", Make.poked(stream).decode(9), 1);
        WaveletStream w = Make.poked(stream);
        check.equal("second layer", w.decode(10), 2);
        check.equal("taken(0)", w.taken(0), 3);
    }

    private void pixelsAreCutToTheirBounds() {
        check.subject("promises 12 and 13");
        // 12 planes, 34 passes, no bytes: all is read from ff
        WaveletStream w = Make.poked(1, 1, 0, 1, 0xf3, 0xf8, 0x00);
        w.decode(7);
        check.equal("of bytes that are not there", w.decoded(0, 0), 128);
        // One pass of 12 planes: a byte 0 makes the first bit a 1, and the sign.
        w = Make.poked(1, 1, 0, 1, 0xf0, 0x20, 0x00);
        check.equal("decode(7)", w.decode(7), 1);
        int low = w.decoded(0, 0);
        boolean anyHigh = false;
        boolean anyLow = low == 0;
        for (int b = 0; b < 256; b++) {
            WaveletStream v = Make.poked(1, 1, 0, 1, 0xf0, 0x20, b);
            v.decode(7);
            int pixel = v.decoded(0, 0);
            anyHigh |= pixel == 255;
            anyLow |= pixel == 0;
            check.that("0, 128 or 255, not " + pixel, pixel == 0 || pixel == 128 || pixel == 255);
        }
        check.that("above 255 it is 255", anyHigh);
        check.that("below 0 it is 0", anyLow);
    }

    /** Poked bytes ff 8f bring C above A; it then grows without end, and every bit is as the state says. */
    private void readingFarAboveItsBounds() {
        check.subject("promise 12");
        WaveletStream w = Make.poked();
        Reference due = new Reference();
        // 8 x 8, no levels: 12 planes, 34 passes, the width does not grow, 60 bytes
        int[] stream = new int[67];
        System.arraycopy(new int[] {8, 8, 0, 1, 0xf3, 0xf8, 0x3c}, 0, stream, 0, 7);
        for (int i = 0; i < stream.length; i++) {
            int b = i < 7 ? stream[i] : i % 2 == 1 ? 0xff : 0x8f;
            due.stream.add(b);
            check.that("poke(" + i + ", " + b + ")", w.poke(i, b));
        }
        due.decode(67);
        check.equal("decode(67)", w.decode(67), 1);
        for (int i = 0; i < 64; i++) {
            check.equal("decoded", w.decoded(i % 8, i / 8), due.decoded(i % 8, i / 8));
        }
    }

    private void takenOfBands() {
        check.subject("promise 14");
        WaveletStream w = Make.noise(8, 1, 8);
        int size = w.encode(1, 1);
        check.equal("before any decoding", w.taken(0), NONE);
        w.decode(4);
        for (int b = 0; b < 4; b++) {
            check.equal("taken(" + b + ")", w.taken(b), 0);
        }
        check.equal("taken(4)", w.taken(4), NONE);
        w.decode(size);
        check.equal("taken(0)", w.taken(0), w.band(0, 3));
        check.equal("taken(1)", w.taken(1), w.band(1, 3));
        check.equal("taken of an empty band", w.taken(2), 0);
        w.encode(3, 1);
        check.equal("another encoding leaves it", w.taken(4), NONE);
        for (int far : FAR) {
            check.equal("taken(" + far + ")", w.taken(far), NONE);
        }
    }

    private void differences() {
        check.subject("promise 15");
        WaveletStream w = Make.drawn(2, 2, 1, 2, 3, 4);
        w.decode(w.encode(1, 1));
        check.equal("the same", w.difference(), 0);
        w.paint(1, 1, 250);
        check.equal("brighter", w.difference(), 246);
        w.paint(1, 1, 4);
        w.paint(0, 1, 0);
        check.equal("darker", w.difference(), 3);
        w.picture(2, 1);
        check.equal("other height", w.difference(), NONE);
        w.picture(1, 2);
        check.equal("other width", w.difference(), NONE);
        w.picture(4, 1);
        check.equal("as many pixels in another form", w.difference(), NONE);
        w.picture(2, 2);
        check.equal("the same size again", w.difference(), 4);
    }
}
