import java.util.Arrays;
import java.util.Random;

/** The document's "Terms", sentence by sentence: the coder, telling and reading, codewords and least lengths. */
final class CoderSentences extends Sentences {
    private CoderSentences(Check check, String document) {
        super(check, document);
    }

    static void run(Check check, String document) {
        CoderSentences t = new CoderSentences(check, document);
        t.firstStates();
        t.likelyBits();
        t.states();
        t.tellingTheLikelyBit();
        t.tellingTheOtherBit();
        t.nextStates();
        t.mending();
        t.carry();
        t.carryToFf();
        t.behindFf();
        t.end();
        t.behindTheLastByte();
        t.readingFf();
        t.readingOthers();
        t.readingFirst();
        t.readingTheLowPart();
        t.readingTheHighPart();
        t.readingWithoutBound();
        t.codeword();
        t.leastLength();
    }

    private void firstStates() {
        says("for each context a LIKELY bit (at first 0) and a STATE 0 .. 46 (at first 46 for context 18, 3 for 17, "
            + "4 for 0, 0 for others).");
        codes("LL", "1", "03");
        codes("LL", "-1", "07");
        codes("LL", "0 / 0 / 0 / 0 / -1", "19");
        codes("HH", "0 / 0 / 0 / -1", "01");
        // a new coder for each band, and for each encoding
        WaveletStream w = Make.noise(8, 8, 3);
        w.encode(1, 1);
        w.picture(1, 1);
        w.paint(0, 0, 127);
        for (int k = 0; k < 2; k++) {
            w.encode(0, 1);
            same("codeword of -1", Make.codeword(w, 0), 7);
        }
        // nothing but 0 is likely at first: from no bytes only 0 is read
        for (int side = 1; side <= 8; side++) {
            int[] all = new int[side * side];
            same("numbers of no bytes", numbersOf(Make.oneBand(side, side, 7, 19)), all);
        }
    }

    private void likelyBits() {
        says("in 0, 6 and 14 the likely bit changes then.");
        codes("LL", "-1 -1 0", "08 3f");
        codes("HH", "0 -2 -2 0", "0b c9");
        codes("LL", "0 / -2 / 1 / -1 / -1 / 0", "0c 9f df");
        // in 4, 5 and others it does not
        codes("LL", "-1 0 0", "07");
        codes("LL", "0 -1 0 0", "0b");
    }

    /**
     * Streams (found by trying) of which each row of the table is read with both bits, the last ones, too, which no
     * picture reaches; one row told otherwise gives other numbers.
     */
    private void states() {
        says("A state has a size q, what is next when the likely bit comes, what is next when the other one comes;");
        says("The states from 0 on, q in hexadecimal:");
        reads("13 dd 4e f3 5b ea 7d 42 ef fb 04 1e ec 0a a7 76 1e 80 e3 26 54 21 e0 3d c0 8e 58 07 4f 08 8b 12 37 "
            + "c0 33 ac fa 1a f2 63 78 05 f4 3b 70 83 2b 4c db 5a 16 89 56 3f",
            12, 34,
            "127 127 127 127 76 127 -128 127 / 127 127 127 -22 119 127 -128 127 / 127 54 127 -9 127 127 127 -2 / "
            + "-128 -128 -60 127 127 78 -128 127 / 127 -128 -128 127 127 -128 -128 -128 / 127 127 4 127 127 127 127 "
            + "127 / 127 -19 127 96 -128 127 127 127 / 127 127 127 -13 127 127 -128 127");
        reads("05 60 f9 6c 99 0e 22 30 03 c5 29 21 58 76 51 76 fa 6f bb 0c cc 36 94 76 ba 0f 9d f5 6f b9 bf f5 33 "
            + "56 5c 6d 09 38 d2 13 7d 26 9d a0 d4 de 81 f8 ac 88 48 ac 98 05 73 20 a7 12 32 f2 ab 19 1a 0d aa e5 "
            + "93 07 28 94 6a 8e e1 6b b6 68 14 0a 4e 71 a4 a6",
            12, 34,
            "-41 127 127 127 127 127 -128 -128 / 88 -128 -128 19 127 127 127 78 / -128 127 127 127 127 127 127 "
            + "127 / 127 -128 127 -128 -88 127 127 -128 / 127 127 127 -34 127 23 127 127 / 127 16 127 8 127 127 -74 "
            + "127 / 127 -128 17 127 127 27 127 -128 / -128 127 127 127 -6 127 127 127");
        reads("13 fd ff 28 74 7c 14 83 2b 82 84 18 76 57 f3 e5 ff 02 20 4d 92 aa e0 3d c0 89 00 4c 52 30 d8 2b 10 "
            + "57 15 3a a8 6d 3c b7 af a5 5b b4 75 33 7b 7e e8 b2 88 54 7c 9c 26 0e bf",
            12, 34,
            "127 127 127 127 64 127 -128 127 / 127 127 127 -22 119 127 -128 -128 / 127 57 127 5 127 127 -128 -5 / "
            + "127 -128 -58 127 127 76 -128 127 / -128 -128 -128 127 -128 -128 -128 -128 / 127 127 2 127 127 127 "
            + "127 127 / 127 -19 127 118 -128 -128 127 127 / -128 127 127 3 -128 -128 127 127");
        reads("09 68 f0 e4 83 1a bd 78 ab f5 fa 70 72 10 dd cd 50 3c d6 00 2c 04 d4 e6 16 ac f9 8c 92 84 44 0f 1f "
            + "d1 48 44 73 e0 6c 65 ff 0a 9f 2d 4d c6 f7 92 3d 11 82 5f",
            12, 34,
            "70 -128 127 127 71 -4 -128 127 / 20 -68 -65 -128 127 127 127 -128 / 127 -8 127 127 -24 -128 -128 127 "
            + "/ 33 -128 127 -65 127 -26 127 -98 / 127 -128 127 -128 -128 127 127 -77 / 127 127 -128 51 -128 -128 "
            + "127 127 / 127 127 127 127 -128 -128 127 127");
        reads("14 2e b1 96 4a 8d d8 8c 50 26 2e 34 79 ce a9 0b 4a 00 28 3b d8 00 df 3f 81 6b 58 2c 42 0a ae ab 5d "
            + "aa c3 96 32 52 bf b6 55 f1 a3 6e 79 dd df 5e 6b ba e1 74 ad 24 4f a6 2f c7 c5 b4 d8 76 59 c5 a7 e5 "
            + "aa 7f 4f",
            12, 34,
            "127 127 127 127 127 -128 127 127 / 0 127 127 127 -128 -27 -128 -128 / 127 127 127 122 127 127 127 "
            + "-128 / -63 -105 127 127 127 127 127 127 / -128 127 127 127 127 127 -128 -128 / -128 127 -128 -128 "
            + "127 108 127 127 / 127 96 -128 127 127 53 -128 -20");
        reads("10 30 92 75 90 38 47 41 d0 29 85 db 95 4b 6b 5b d3 a4 20 7b fa bf 0b 82 e0 8b 4d 8f 0b c7 4d a0 45 "
            + "e3 06 6e 10 06 0e 24 73 28 b1 0f 85 da 7c 97 74 6c e9 39 02 04 9e 27 8f 79 6e 97 50 2a e3 94 47 2b "
            + "89 1c b1 2b e8 96 81 cb 88 f8 eb 13 07 b2 37 81 46 c4 03",
            12, 34,
            "-128 -128 127 127 -128 127 -61 -128 / 127 127 -128 -13 116 -128 54 127 / 29 127 127 127 108 127 127 "
            + "127 / -128 -128 56 127 127 -128 127 127 / -28 -128 127 -128 127 127 -128 127 / 127 -26 -128 99 127 "
            + "127 127 127 / 127 -128 127 -128 -101 127 127 127 / 24 -128 127 127 127 124 127 127");
        reads("04 4c 0c f8 ba fb 45 a4 8b bf 37 38 29 f1 02 9b 64 23 5b",
            12, 34,
            "127 -4 2 -4 3 -2 -1 -1 / 3 -7 -1 0 1 -2 4 2 / -2 -2 -1 4 2 1 4 -1");
    }

    private void tellingTheLikelyBit() {
        says("For the likely bit: if A is below 8000: if A is below q, A becomes q, otherwise C becomes C + q;");
        // A comes to be 8000 itself, which is not below it
        codes("LH", "-1 0 0 0 / 0 0 0 0 / 0 1 0 1", "06 54 df");
        codes("LL", "0 / -2 / 0 / 2 / -4 / 0", "18 54 13");
        // A comes to be q itself, 5601: C becomes C + q
        codes("HH", "1 0", "03");
        codes("HH", "1 0 / 0 0", "04");
        says("otherwise C becomes C + q. For the other bit:");
        codes("HH", "0 0 -1", "0d");
        codes("LL", "-1 0 0", "07");
    }

    private void nextStates() {
        says("the state is the next one, and A is MENDED; otherwise C becomes C + q.");
        codes("HH", "0 -1", "0b");
        codes("HH", "0 0 -1", "0d");
        codes("LL", "0 -1 0 0", "0b");
        says("the state is the next one for that, and A is mended.");
        codes("LL", "-1 0 0", "07");
        codes("LL", "-1 -1 0", "08 3f");
        says("The state is the next one for this bit, and A is mended:");
        reads("10", 1, 1, "-1 / -1 / 0 / 0");
        reads("0b", 1, 1, "0 -1 0 0 / -1 1 0 1 / 0 0 0 0");
    }

    private void tellingTheOtherBit() {
        says("For the other bit: if A is below q, C becomes C + q, otherwise A becomes q;");
        // A is above q; A is below q; A is q itself
        codes("LL", "1", "03");
        codes("LL", "-1", "07");
        codes("HH", "1 1", "01");
        codes("HH", "1 -1", "00");
    }

    private void mending() {
        says("To mend: A and C are doubled, T is one less, if T is 0 a byte goes OUT; again, until A is 8000 or more.");
        // A comes to be 8000 itself
        codes("HH", "-1 -1 -1 0 / 0 0 0 1 / 0 1 1 0", "06 26 25");
        codes("LL", "0 / -2 / 0 / 2 / -4 / 0", "18 54 13");
        // one bright pixel in every place of every picture: so many likely bits before the first other one
        for (int width = 1; width <= 8; width++) {
            for (int height = 1; height <= 8; height++) {
                onePixel(width, height);
            }
        }
    }

    private void onePixel(int width, int height) {
        for (int place = 0; place < width * height; place++) {
            int[][] rows = new int[height][width];
            rows[place / width][place % width] = 1;
            WaveletStream w = Make.ofBand("LL", rows);
            Reference.Band due = new Reference.Band("LL", rows);
            Reference.code(due);
            same(width + " x " + height + ", place " + place, Make.codeword(w, 0), Make.ints(due.codeword));
            w.decode(Make.stream(w).length);
            check.equal("difference()", w.difference(), 0);
        }
    }

    private void carry() {
        says("OUT: if the last byte is not ff, and C is 8000000 or more, 1 is added to that byte,");
        codes("HH", "0 -6", "0c 0f");
        // C is 8000000 itself (found by trying: about one byte in 300 million)
        codes("LL", "0 0 0 / -8 0 0 / 0 0 0 / 0 0 126 / 47 0 0 / 0 -45 0", "1e e0 65 aa 00 18 fe 15");
    }

    private void carryToFf() {
        says("and if it is ff then, C loses its bit of 8000000.");
        codes("HH", "-1 -3 0 / 0 -3 -3", "0d ff 07");
    }

    private void behindFf() {
        says("Now, if the last byte is ff: a new byte is C / 100000, C the rest, T is 7; otherwise the new byte is "
            + "C / 80000, C the rest, T is 8 (all hexadecimal; of both the lowest eight bits are the byte).");
        codes("LL", "0 0 / -1 1", "0b ff 7f");
        codes("HL", "-3 -5 -2", "0b ff 67");
        codes("LL", "0 / -1 / 0 / 1 / 0 / -2", "1d ff 53");
        // the last byte was ff, and C is 8000000 or more: the byte behind it has its highest bit, up to 8f
        codes("HH", "-3 -4 -3 0", "0b ff 81");
        codes("LL", "-44 / -31 / 18", "05 ff 80");
        codes("LL", "0 0 -15 / 0 -55 0 / -47 0 0", "0d f7 b4 ff 8f 7f");
    }

    /** That C is U itself can't be: U is even, as C + A is from the first on, and C ends with a bit 1. */
    private void end() {
        says("In the END: let U be C + A; C gets its 16 lowest bits all 1, and if it is U or more then, it is 8000 "
            + "less; twice: C is doubled T times, and a byte goes out. If the last byte is ff, it is left out.");
        // less 8000, and not; the last byte left out, and not
        codes("LL", "1", "03");
        codes("LL", "-1", "07");
        codes("LL", "-1 -1 0", "08 3f");
        codes("HL", "-3 0", "06 7f");
        for (int seed = 0; seed < 300; seed++) {
            WaveletStream w = Make.noise(1 + seed % 8, 1 + seed / 8 % 8, seed);
            w.encode(seed % 4, 1);
            for (int b = 0; w.band(b, 4) != NONE; b++) {
                int bytes = w.band(b, 4);
                check.that("a codeword ends with ff", bytes == 0 || w.codeword(b, bytes - 1) != 0xff);
            }
        }
        says("and bytes (one at first, 0, that is left out in the end):");
        codes("LL", "1 -1", "00");
        codes("LL", "1 / -1", "00");
    }

    private void behindTheLastByte() {
        says("READING from bytes (behind the last one stands ff, always):");
        reads("", 1, 1, "0 / 0");
        reads("", 12, 34, "0 0 0 0 / 0 0 0 0 / 0 0 0 0 / 0 0 0 0");
        reads("06", 3, 1, "-4 -4 / 0 4 / 0 -4");
        reads("10", 1, 1, "-1 / -1 / 0 / 0");
        // bytes ff behind the last one change nothing
        reads("06 ff", 3, 1, "-4 -4 / 0 4 / 0 -4");
        reads("06 ff ff ff", 3, 1, "-4 -4 / 0 4 / 0 -4");
        reads("ff ff", 1, 1, "0 / 0");
        // what stands in the stream behind a band's bytes is not read
        int[] one = Make.oneBand(2, 3, 3, 1, 6);
        WaveletStream w = Make.poked(Make.join(one, new int[] {0, 0, 0, 0}));
        w.decode(one.length + 4);
        check.equal("number (0, 0)", w.decoded(0, 0), 124);
        check.equal("number (1, 2)", w.decoded(1, 2), 124);
    }

    private void readingFf() {
        says("a byte comes IN: if the byte at the place is ff and the next one is above 8f, C becomes C + ff00, "
            + "T is 8;");
        reads("0b ff 8f", 1, 1, "0 -1 0 0 / -1 1 0 0 / 0 0 0 0");
        reads("0b ff 90", 1, 1, "0 -1 0 0 / -1 1 0 1 / 0 0 0 0");
        reads("1d ff 90", 1, 1, "0 0 0 1 / 0 0 0 -1 / 0 0 1 1 / 0 0 -1 -1");
        reads("0b", 1, 1, "0 -1 0 0 / -1 1 0 1 / 0 0 0 0");
        reads("01", 1, 1, "1 -1 / 1 1 / 1 0");
        reads("0a", 2, 1, "0 0 0 0 / -2 2 0 -2 / 2 2 2 2 / 2 2 0 -2");
        reads("13", 2, 1, "2 2 2 0 / 2 2 2 0 / 2 2 0 2 / 2 2 -2 2");
        // the place stays: all that stands behind is ff
        reads("0b ff 90 00 00", 1, 1, "0 -1 0 0 / -1 1 0 1 / 0 0 0 0");
        // a picture whose codeword has ff 8f
        codes("LL", "0 0 -15 / 0 -55 0 / -47 0 0", "0d f7 b4 ff 8f 7f");
    }

    private void readingOthers() {
        says("if it is ff and the next is not, the place is one on, that byte * 200 is added to C, T is 7; if it is "
            + "not ff, the place is one on, that byte * 100 is added, T is 8.");
        reads("13 ff 40", 1, 1, "1 1 / 1 1 / 1 1 / 1 1");
        reads("01 ff 23", 3, 1, "4 -4 0 4 / 4 4 -4 0 / 4 0 4 4");
        reads("13 ff 63", 3, 1, "4 4 -4 4 / 4 4 -4 4 / 4 4 -4 4 / 4 4 -4 4");
        reads("00 ff 8c", 3, 1, "4 0 4 / -4 -4 4 / 4 4 0");
        reads("08 90", 1, 1, "0 0 -1 0 / 0 1 -1 0 / 1 1 0 0 / -1 0 1 -1");
    }

    private void readingFirst() {
        says("At first the place is 0, C is the first byte * 10000, a byte comes in, C is doubled 7 times, T is 7 "
            + "less, A is 8000.");
        reads("08", 1, 1, "-1");
        reads("04", 1, 1, "1");
        reads("05", 2, 1, "-2");
        reads("0b", 6, 1, "0");
        reads("10", 1, 1, "-1 / -1 / 0 / 0");
        // the first byte is ff, and the next one is or is not above 8f
        reads("ff 00", 1, 1, "0 0 / 0 0");
        reads("ff 8f", 1, 1, "0 0 / 0 0");
        reads("ff 90", 1, 1, "0 0 / 0 0");
    }

    private void readingTheLowPart() {
        says("If C / 10000 is below q: the bit is the likely one if A is below q, otherwise the other one; "
            + "A becomes q.");
        // C / 10000 comes to be q itself
        reads("0a 42", 6, 6, "24");
        // A comes to be q itself
        reads("01", 2, 1, "2 / 2");
        reads("04", 1, 1, "1 / 0");
    }

    private void readingTheHighPart() {
        says("If it is not: C loses q * 10000; if A is 8000 or more, the bit is the likely one, and that is all; "
            + "otherwise the bit is the other one if A is below q, the likely one if not.");
        reads("0d", 2, 1, "0 / 0 / -2");
        reads("07", 2, 1, "-2 / 0");
        // A comes to be 8000 itself, and is so when it was mended
        codes("LH", "-1 0 0 0 / 0 0 0 0 / 0 1 0 1", "06 54 df");
        reads("08 90", 1, 1, "0 0 -1 0 / 0 1 -1 0 / 1 1 0 0 / -1 0 1 -1");
        says("if T is 0 a byte comes in; A and C are doubled, T is one less; until A is 8000 or more.");
        reads("0f fd", 3, 2, "2 -4 0 / 0 4 0 / 2 -4 4");
    }

    /** Poked bytes ff 88 to ff 8f can bring C above A; it is a number without a bound. */
    private void readingWithoutBound() {
        says("A and C are doubled, T is one less; until A is 8000 or more.");
        int[] code = new int[60];
        for (int i = 0; i < code.length; i++) {
            code[i] = i % 2 == 0 ? 0xff : 0x8f;
        }
        for (int first = 0; first < 256; first += 5) {
            code[0] = first;
            readsLikeTheReference(8, 8, 7, 19, code);
        }
        // 32 bits are too few for C, and so are 64
        readsLikeTheReference(8, 8, 9, 23,
            Make.bytes("85 78 ff 8c c5 b6 bf c6 31 f1 07 4c c1 5c 4e 5a c5 e8 5b"));
        readsLikeTheReference(6, 7, 8, 20,
            Make.bytes("70 3b 3e ff 8b ff 8f 2b d6 d0 18 51 1f 5b 7a 08 29 a4"));
        readsLikeTheReference(8, 7, 11, 29, Make.bytes("90 69 5a 67 ec 3e ff 8e ff 8f"));
    }

    private void readsLikeTheReference(int width, int height, int planes, int passes, int... code) {
        int[] stream = Make.oneBand(width, height, planes, passes, code);
        Reference reference = new Reference();
        for (int b : stream) {
            reference.stream.add(b);
        }
        reference.decode(stream.length);
        int[] due = new int[width * height];
        for (int i = 0; i < due.length; i++) {
            due[i] = reference.decoded(i % width, i / width) - 128;
        }
        same("numbers", numbersOf(stream), due);
    }

    private void codeword() {
        says("A band's CODEWORD is the coder's bytes of all its passes.");
        codes("LL", "5 0", "05 3f");
        // none, if there are no passes, nor any of an encoding before
        WaveletStream w = Make.noise(8, 8, 1);
        w.encode(1, 1);
        w.picture(2, 1);
        w.paint(0, 0, 128);
        w.paint(1, 0, 128);
        w.encode(1, 1);
        for (int b = 0; b < 4; b++) {
            check.equal("bytes of band " + b, w.band(b, 4), 0);
            check.equal("codeword(" + b + ", 0)", w.codeword(b, 0), NONE);
        }
    }

    private void leastLength() {
        says("THE LEAST LENGTH for so many passes is the least number of bytes of it from which (with ff behind) all "
            + "these passes are read right; 0 for no passes.");
        for (int seed = 0; seed < 24; seed++) {
            int width = 1 + seed % 5;
            int height = 1 + seed * 7 % 6;
            int[] pixels = new int[width * height];
            Random random = new Random(seed);
            int reach = 1 << 1 + seed % 6;
            for (int i = 0; i < pixels.length; i++) {
                pixels[i] = 128 + random.nextInt(2 * reach) - reach + 1;
            }
            WaveletStream w = Make.drawn(width, height, pixels);
            w.encode(0, 1);
            check.equal("least(0, 0)", w.least(0, 0), 0);
            int[] code = Make.codeword(w, 0);
            for (int passes = 1; passes <= w.band(0, 3); passes++) {
                int least = w.least(0, passes);
                int[] due = numbersOf(Make.oneBand(width, height, w.band(0, 2), passes, code));
                for (int n = 0; n <= code.length; n++) {
                    int[] some = Arrays.copyOf(code, n);
                    boolean right = Arrays.equals(due,
                        numbersOf(Make.oneBand(width, height, w.band(0, 2), passes, some)));
                    check.that(n + " bytes for " + passes + " passes, least is " + least,
                        n > least || right == (n == least));
                }
            }
        }
        // 0b ff 7f: what stands behind 0b is as good as ff without an end
        WaveletStream w = Make.ofBand("LL", Make.rows("0 0 / -1 1"));
        check.equal("bytes", w.band(0, 4), 3);
        check.equal("least(0, 1)", w.least(0, 1), 1);
        check.equal("byte behind the head", w.stream(Make.stream(w).length - 1), 0x0b);
        // for no passes, whatever the band is
        w = Make.drawn(1, 2, 128, 128);
        w.encode(1, 1);
        for (int b = 0; b < 4; b++) {
            check.equal("least(" + b + ", 0)", w.least(b, 0), 0);
            check.equal("least(" + b + ", 1)", w.least(b, 1), NONE);
        }
    }
}
