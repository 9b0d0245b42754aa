import java.util.Arrays;
import java.util.Random;

/** The document's "Terms", sentence by sentence: the stream, its heads, decoding, what is malformed. */
final class StreamSentences extends Sentences {
    private StreamSentences(Check check, String document) {
        super(check, document);
    }

    static void run(Check check, String document) {
        StreamSentences t = new StreamSentences(check, document);
        t.firstFourBytes();
        t.packetsInTheirOrder();
        t.layersRoundedDown();
        t.filledWithZeros();
        t.fromLeastToLeast();
        t.noBandGetsPasses();
        t.bandsThatAreNotEmpty();
        t.planesOfTheFirstOnes();
        t.howManyPasses();
        t.widthOfLengths();
        t.wholePackets();
        t.emptyAndFullPackets();
        t.bitsThatWereNotTold();
        t.rowsFirst();
        t.cutToPixels();
        t.boundsOfTheFirstFour();
        t.planesTold();
        t.planesAsSoonAsThere();
        t.passesTold();
        t.passesAsSoonAsThere();
        t.passesOfAllLayers();
        t.lookedAt();
    }

    private static WaveletStream packed(String kind, String numbers, int levels, int layers) {
        WaveletStream w = Make.ofBand(kind, Make.rows(numbers));
        w.encode(levels, layers);
        return w;
    }

    private void firstFourBytes() {
        says("THE STREAM: four bytes, width, height, levels, layers;");
        for (int k = 0; k < 200; k++) {
            WaveletStream w = Make.noise(1 + k % 8, 1 + k / 8 % 8, k);
            int size = w.encode(k % 4, 1 + k % 3);
            check.equal("width", w.stream(0), 1 + k % 8);
            check.equal("height", w.stream(1), 1 + k / 8 % 8);
            check.equal("levels", w.stream(2), k % 4);
            check.equal("layers", w.stream(3), 1 + k % 3);
            check.equal("behind the last byte", w.stream(size), NONE);
        }
    }

    private void packetsInTheirOrder() {
        says("then for each layer from 1 on, of L layers, for each RESOLUTION r (0: band 0; others: bands 3r - 2 .. "
            + "3r) a PACKET.");
        // one pass of band 1: in layer 2 alone, and behind the packet of band 0
        int[] head = Make.bits("1 1 0001 0 0 001 0 0");
        same("HL", Make.stream(packed("HL", "1", 1, 2)),
            Make.join(new int[] {2, 2, 1, 2, 0, 0, 0}, head, Make.bytes("03")));
        // LH 2 has 4 passes: 2 and 2; on the level behind it nothing
        WaveletStream w = packed("LH", "2 2 / 2 2", 1, 2);
        int size = w.encode(1, 2);
        check.equal("packets", w.decode(size), 4);
        // how many packets there are, and what is taken by and by, layer by layer
        for (int levels = 0; levels <= 3; levels++) {
            for (int layers = 1; layers <= 3; layers++) {
                WaveletStream v = Make.noise(8, 8, 9);
                int all = v.encode(levels, layers);
                check.equal("packets", v.decode(all), layers * (levels + 1));
                for (int n = 4; n <= all; n++) {
                    int packets = v.decode(n);
                    for (int b = 0; b <= 3 * levels; b++) {
                        int r = (b + 2) / 3;
                        int layer = (packets + levels - r) / (levels + 1);
                        check.equal("taken(" + b + ") of " + packets + " packets", v.taken(b),
                            v.band(b, 3) * layer / layers);
                    }
                }
            }
        }
    }

    private void layersRoundedDown() {
        says("Layer i brings each band to i / L of its passes, rounded down.");
        int[][] due = {{1, 0, 0, 1}, {4, 1, 2, 4}, {7, 2, 4, 7}, {10, 3, 6, 10}, {13, 4, 8, 13}, {16, 5, 10, 16},
            {19, 6, 12, 19}, {22, 7, 14, 22}};
        for (int p = 1; p <= 8; p++) {
            int v = p == 8 ? -128 : 1 << p - 1;
            WaveletStream w = packed("LL", "" + v, 0, 3);
            check.equal("passes", w.band(0, 3), due[p - 1][0]);
            takenByLayers(w, due[p - 1][1], due[p - 1][2], due[p - 1][3]);
            w = packed("LL", "" + v, 0, 2);
            takenByLayers(w, due[p - 1][0] / 2, due[p - 1][0]);
            w = packed("LL", "" + v, 0, 1);
            takenByLayers(w, due[p - 1][0]);
        }
    }

    private void takenByLayers(WaveletStream w, int... due) {
        int size = Make.stream(w).length;
        int seen = 0;
        for (int n = 4; n <= size; n++) {
            int packets = w.decode(n);
            check.equal("taken(0) of " + packets + " packets", w.taken(0), packets == 0 ? 0 : due[packets - 1]);
            seen = packets;
        }
        check.equal("packets", seen, due.length);
    }

    private void filledWithZeros() {
        says("A packet is a HEAD of bits (the highest of a byte first; the last byte is filled with 0),");
        // 11 bits, five zeros; 8 bits and nothing filled
        same("stream", Make.stream(packed("LL", "1", 0, 1)), Make.join(new int[] {1, 1, 0, 1},
            Make.bits("1 1 0001 0 0 001 00000"), Make.bytes("03")));
        same("no passes", Make.stream(packed("LL", "0", 0, 1)), 1, 1, 0, 1, 0);
        // what fills is not looked at
        packets("filled with 1", 5, 1, 1, 1, 0, 1, 0x7f);
        int[] ones = Make.join(new int[] {1, 1, 0, 1}, Make.bits("1 1 0001 0 0 001 11111"), Make.bytes("03"));
        same("number", numbersOf(ones), 1);
    }

    /** The stream of a picture without levels, put together from what the object tells of its one band. */
    private int[] streamOf(WaveletStream w, int width, int height, int layers) {
        int[] code = Make.codeword(w, 0);
        int[] all = {width, height, 0, layers};
        int had = 0;
        int wide = 3;
        for (int layer = 1; layer <= layers; layer++) {
            int upTo = layer * w.band(0, 3) / layers;
            int n = upTo - had;
            if (n == 0) {
                all = Make.join(all, new int[] {0});
                continue;
            }
            int from = w.least(0, had);
            int bytes = w.least(0, upTo) - from;
            StringBuilder head = new StringBuilder("1 1");
            head.append(had == 0 ? Reference.binary(w.band(0, 2), 4) : "").append(Make.count(n));
            while (bytes >> wide + Reference.logarithm(n) > 0) {
                wide++;
                head.append("1");
            }
            head.append("0").append(Reference.binary(bytes, wide + Reference.logarithm(n)));
            all = Make.join(all, Make.bits(head.toString()), Arrays.copyOfRange(code, from, from + bytes));
            had = upTo;
        }
        return all;
    }

    private void fromLeastToLeast() {
        says("then for each band that is in it the bytes of its codeword from the least length for the passes that it "
            + "had up to that for those it has then.");
        for (int seed = 0; seed < 300; seed++) {
            int width = 1 + seed % 8;
            int height = 1 + seed / 8 % 8;
            int layers = 1 + seed % 3;
            WaveletStream w = mild(width, height, seed);
            w.encode(0, layers);
            same("stream of seed " + seed, Make.stream(w), streamOf(w, width, height, layers));
            w.decode(Make.stream(w).length);
            check.equal("difference()", w.difference(), 0);
        }
        // all bytes that are there: none that the last passes do not need
        same("stream", Make.stream(Make.ofBand("LL", Make.rows("0 0 / -1 1"))),
            Make.join(new int[] {2, 2, 0, 1}, Make.bits("1 1 0001 0 0 001"), Make.bytes("0b")));
    }

    private static WaveletStream mild(int width, int height, int seed) {
        Random random = new Random(seed);
        int reach = 1 + seed % 11 * seed % 128;
        int[] pixels = new int[width * height];
        for (int i = 0; i < pixels.length; i++) {
            pixels[i] = 128 + random.nextInt(2 * reach + 1) - reach;
            pixels[i] = Math.min(255, pixels[i]);
        }
        return Make.drawn(width, height, pixels);
    }

    private void noBandGetsPasses() {
        says("The head: 0 if no band gets passes, otherwise 1");
        same("0 in three layers and two resolutions", Make.stream(packed("HH", "0", 1, 3)),
            2, 2, 1, 3, 0, 0, 0, 0, 0, 0);
        // a band with passes, that gets none in this layer: one pass in three layers
        same("1 in three layers", Make.stream(packed("LL", "1", 0, 3)),
            Make.join(new int[] {1, 1, 0, 3, 0, 0}, Make.bits("1 1 0001 0 0 001"), Make.bytes("03")));
        // empty bands alone
        WaveletStream w = Make.drawn(1, 1, 128);
        check.equal("bytes", w.encode(2, 1), 7);
        same("empty bands", Make.stream(w), 1, 1, 2, 1, 0, 0, 0);
    }

    private void bandsThatAreNotEmpty() {
        says("and for each band of it that is not empty: 0 if it gets none; otherwise 1;");
        String tail = "0001 0 0 001";
        int[] head = {2, 2, 1, 1, 0};
        same("HL", Make.stream(packed("HL", "1", 1, 1)),
            Make.join(head, Make.bits("1 1" + tail + "0 0"), Make.bytes("03")));
        same("LH", Make.stream(packed("LH", "1", 1, 1)),
            Make.join(head, Make.bits("1 0 1" + tail + "0"), Make.bytes("03")));
        same("HH", Make.stream(packed("HH", "1", 1, 1)),
            Make.join(head, Make.bits("1 0 0 1" + tail), Make.bytes("03")));
        // of 1 x 2 only LH is there: no bit for HL, none for HH; of 2 x 1 only HL
        WaveletStream w = Make.drawn(1, 2, 128, 129);
        w.encode(1, 1);
        check.equal("LH", w.number(2, 0, 0), 1);
        check.equal("LL", w.number(0, 0, 0), 1);
        int[] one = Make.join(Make.bits("1 1" + tail), Make.bytes("03"));
        same("1 x 2", Make.stream(w), Make.join(new int[] {1, 2, 1, 1}, one, one));
        w = Make.drawn(2, 1, 128, 129);
        w.encode(1, 1);
        same("2 x 1", Make.stream(w), Make.join(new int[] {2, 1, 1, 1}, one, one));
        // of 2 x 1, with three levels, the last two have no band but LL: heads of 0
        check.equal("bytes", w.encode(3, 1), 4 + 3 + 1 + 1 + 3);
        same("2 x 1, three levels", Make.stream(w), Make.join(new int[] {2, 1, 3, 1}, one, new int[] {0, 0}, one));
        // HL 2 has 4 passes of 2 planes: 16 bits, so one bit more would need one byte more
        w = Make.drawn(2, 1, 127, 129);
        w.encode(1, 1);
        check.equal("HL", w.number(1, 0, 0), 2);
        check.equal("LL", w.number(0, 0, 0), 0);
        int[] code = Make.codeword(w, 1);
        same("16 bits", Make.stream(w), Make.join(new int[] {2, 1, 1, 1, 0},
            Make.bits("1 1 0010 1101 0 00001"), code));
        check.equal("packets", w.decode(Make.stream(w).length), 2);
        check.equal("difference()", w.difference(), 0);
    }

    private void planesOfTheFirstOnes() {
        says("when it gets the first ones, its planes in four bits;");
        // 4 passes of 2 planes in three layers: 1, 1, 2; the planes stand in the first alone
        WaveletStream w = packed("LL", "2", 0, 3);
        same("three layers", Make.stream(w), streamOf(w, 1, 1, 3));
        check.equal("first head", w.stream(4), 0xc8);
        check.equal("second head: 1 1 0 0 000", w.stream(7), 0xc0);
        // the first ones in the last layer
        w = packed("LL", "1", 0, 2);
        same("two layers", Make.stream(w), Make.join(new int[] {1, 1, 0, 2, 0}, Make.bits("1 1 0001 0 0 001"),
            Make.bytes("03")));
        // read likewise: 12 planes, then the second layer's bits are a count at once
        int[] two = Make.join(new int[] {1, 1, 0, 2}, Make.bits("1 1 1100 0 0 001"), Make.bytes("0b"),
            Make.bits("1 1 1111 11011 0 0000000"));
        packets("33 passes more", two.length, 2, two);
    }

    private void howManyPasses() {
        says("how many passes it gets, n: 0 for 1, 10 for 2, 11 and two bits of n - 3 for 3 .. 5, 1111 and five bits "
            + "of n - 6 for 6 and more;");
        boolean[] seen = new boolean[40];
        for (int p = 1; p <= 8; p++) {
            for (int layers = 1; layers <= 3; layers++) {
                WaveletStream w = packed("LL", "" + (p == 8 ? -128 : 1 << p - 1), 0, layers);
                same(p + " planes in " + layers + " layers", Make.stream(w), streamOf(w, 1, 1, layers));
                for (int i = 1; i <= layers; i++) {
                    seen[i * w.band(0, 3) / layers - (i - 1) * w.band(0, 3) / layers] = true;
                }
            }
        }
        for (int n = 1; n <= 8; n++) {
            check.that("no head tells " + n + " passes", seen[n]);
        }
        // read: each number of passes that 12 planes have, of which each is the last one that is taken
        for (int n = 1; n <= 34; n++) {
            int[] one = Make.oneBand(1, 1, 12, n);
            WaveletStream w = Make.poked(one);
            check.equal(n + " passes", w.decode(one.length), 1);
            check.equal("taken(0)", w.taken(0), n);
        }
        String[] literal = {"0", "10", "1100", "1101", "1110", "111100000", "111100001", "111111100"};
        int[] of = {1, 2, 3, 4, 5, 6, 7, 34};
        for (int k = 0; k < of.length; k++) {
            int[] one = Make.join(new int[] {1, 1, 0, 1}, Make.bits("1 1 1100" + literal[k] + "0 00000000"));
            WaveletStream w = Make.poked(one);
            w.decode(one.length);
            check.equal("taken(0) of " + literal[k], w.taken(0), of[k]);
        }
    }

    private void widthOfLengths() {
        says("then as many bits 1 as its WIDTH OF LENGTHS (at first 3) must grow, and 0; then the number of bytes, in "
            + "as many bits as that width and the logarithm of n (to 2, rounded down). It grows as little as it must.");
        // one pass: three bits hold up to 7, four up to 15, five up to 31
        int[] edges = {7, 8, 15, 16};
        String[] heads = {"0 111", "10 1000", "10 1111", "110 10000"};
        boolean[] seen = new boolean[edges.length];
        for (int seed = 0; seed < 3000; seed++) {
            WaveletStream w = onePlane(seed);
            for (int k = 0; k < edges.length; k++) {
                if (w.band(0, 2) == 1 && w.least(0, 1) == edges[k] && !seen[k]) {
                    seen[k] = true;
                    int[] head = Make.bits("1 1 0001 0" + heads[k]);
                    check.equal("first byte of " + edges[k], w.stream(4), head[0]);
                    check.equal("second byte of " + edges[k], w.stream(5), head[1]);
                    check.equal("size of " + edges[k], w.stream(6 + edges[k]), NONE);
                    check.equal("size of " + edges[k], w.stream(5 + edges[k]) == NONE ? 0 : 1, 1);
                    w.decode(6 + edges[k]);
                    check.equal("difference()", w.difference(), 0);
                }
            }
        }
        for (int k = 0; k < edges.length; k++) {
            check.that("no picture with " + edges[k] + " bytes", seen[k]);
        }
        grownBefore();
    }

    private static WaveletStream onePlane(int seed) {
        Random random = new Random(seed);
        WaveletStream w = new WaveletStream();
        w.picture(8, 8);
        int density = 1 + seed % 40;
        for (int i = 0; i < 64; i++) {
            w.paint(i % 8, i / 8, 128 + (random.nextInt(40) < density ? 1 - 2 * random.nextInt(2) : 0));
        }
        w.encode(0, 1);
        return w;
    }

    /** The width that has grown stays: in a later layer it grows from there. */
    private void grownBefore() {
        boolean stays = false;
        boolean growsLater = false;
        for (int seed = 0; seed < 200; seed++) {
            WaveletStream w = seed % 2 == 0 ? Make.noise(8, 8, seed) : mild(8, 8, seed);
            w.paint(seed % 8, 3, 255);
            w.encode(0, 3);
            same("seed " + seed, Make.stream(w), streamOf(w, 8, 8, 3));
            int wide = 3;
            for (int layer = 1; layer <= 3; layer++) {
                int from = (layer - 1) * w.band(0, 3) / 3;
                int upTo = layer * w.band(0, 3) / 3;
                int bytes = w.least(0, upTo) - w.least(0, from);
                int needs = Math.max(wide, 32 - Integer.numberOfLeadingZeros(bytes) - Reference.logarithm(upTo - from));
                stays |= layer > 1 && needs == wide && wide > 3;
                growsLater |= layer > 1 && needs > wide;
                wide = needs;
            }
        }
        check.that("none stays grown", stays);
        check.that("none grows in a later layer", growsLater);
        // read: grown by one in the first layer, so four bits and the logarithm in the second one
        int[] two = Make.join(new int[] {1, 1, 0, 2}, Make.bits("1 1 0010 0 10 0001"), Make.bytes("05"),
            Make.bits("1 1 10 0 00001"), Make.bytes("55"));
        packets("second layer", two.length, 2, two);
        packets("second layer, cut", two.length - 1, 1, two);
        // the same second head, where the width had not grown: 1 1 10 0 0000, and no byte
        int[] other = Make.join(new int[] {1, 1, 0, 2}, Make.bits("1 1 0010 0 0 001"), Make.bytes("05"),
            Make.bits("1 1 10 0 0000"));
        packets("not grown", other.length, 2, other);
    }

    private void wholePackets() {
        says("DECODING the first n bytes: packets are taken as long as head and bytes lie in them as a whole.");
        for (int seed = 0; seed < 6; seed++) {
            WaveletStream w = Make.noise(8, 8, seed);
            int layers = 1 + seed % 3;
            int size = w.encode(seed % 4, layers);
            int before = 0;
            for (int n = 4; n <= size; n++) {
                int now = w.decode(n);
                check.that("from " + before + " to " + now, now == before || now == before + 1);
                before = now;
            }
            check.equal("packets", before, layers * (seed % 4 + 1));
            check.equal("one byte less", w.decode(size - 1), before - 1);
        }
        // a head of two bytes, and two bytes of the band
        int[] one = Make.join(new int[] {1, 1, 0, 1}, Make.bits("1 1 0001 0 0 010"), new int[] {0x12, 0x34});
        for (int n = 4; n <= 8; n++) {
            packets("one packet", n, n == 8 ? 1 : 0, one);
        }
        // of two bands, one has its bytes there, the other one not: none of both is taken
        int[] both = Make.join(new int[] {2, 2, 1, 1, 0}, Make.bits("1 1 0001 0 0 001 1 0001 0 0 001 0"),
            Make.bytes("03 07"));
        WaveletStream w = Make.poked(both);
        check.equal("cut", w.decode(both.length - 1), 1);
        check.equal("taken(1), cut", w.taken(1), 0);
        check.equal("whole", w.decode(both.length), 2);
        check.equal("taken(1)", w.taken(1), 1);
        check.equal("taken(2)", w.taken(2), 1);
        // a packet without passes gives none, though the one before it of the same bands gave some
        int[] later = Make.join(new int[] {2, 2, 1, 3, 0}, Make.bits("1 1 0010 0 0 001 1 0010 0 0 001 0"),
            Make.bytes("03 07"), new int[] {0, 0, 0, 0x80});
        w = Make.poked(later);
        check.equal("packets", w.decode(later.length), 6);
        for (int b = 0; b < 4; b++) {
            check.equal("taken(" + b + ")", w.taken(b), b == 1 || b == 2 ? 1 : 0);
        }
        // what follows a packet that is cut is not looked at as a packet
        int[] cut = Make.join(new int[] {1, 1, 0, 2}, Make.bits("1 1 0001 0 0 111"), new int[] {0, 0, 0});
        packets("a cut packet, then others", cut.length, 0, cut);
    }

    private void emptyAndFullPackets() {
        says("packets are taken as long as head and bytes lie in them as a whole.");
        int[] heads = {2, 1, 3, 3, 0, 0, 0, 0, 0, 0, 0, 0, 0, 0, 0, 0};
        for (int n = 4; n <= heads.length; n++) {
            packets("heads of 0", n, n - 4, heads);
        }
        // a head that says there is something, and of each band that there is nothing
        packets("nothing of band 0", 5, 1, 1, 1, 0, 1, 0x80);
        packets("nothing of three bands", 6, 2, 2, 2, 1, 1, 0, 0x80);
        packets("nothing of no band", 6, 2, 1, 1, 1, 1, 0, 0x80);
        // as many bytes as a length can tell, and no end of the width
        int[] grows = new int[60];
        Arrays.fill(grows, 0xff);
        System.arraycopy(new int[] {1, 1, 0, 1, 0xc5}, 0, grows, 0, 5);
        packets("a width without an end", grows.length, 0, grows);
        String ones = "1".repeat(29);
        int[] wide = Make.join(new int[] {1, 1, 0, 1}, Make.bits("1 1 0001 0" + ones + "0" + "0".repeat(31) + "1"),
            Make.bytes("03"));
        packets("a width of 32", wide.length, 1, wide);
        int[] most = Make.join(new int[] {1, 1, 0, 1}, Make.bits("1 1 0001 0" + ones + "0" + "1".repeat(32)),
            Make.bytes("03"));
        packets("four milliard bytes", most.length, 0, most);
        int[] minus = Make.join(new int[] {1, 1, 0, 1}, Make.bits("1 1 0001 0" + ones + "0 1" + "0".repeat(31)),
            Make.bytes("03"));
        packets("two milliard bytes", minus.length, 0, minus);
        String more = "1".repeat(30);
        int[] around = Make.join(new int[] {1, 1, 0, 1}, Make.bits("1 1 0001 0" + more + "0 1" + "0".repeat(31) + "1"),
            Make.bytes("03"));
        packets("four milliard and one", around.length, 0, around);
    }

    private void bitsThatWereNotTold() {
        says("All passes of a band that were taken are read from its bytes; bits that were not told are 0.");
        int[] code = Make.codeword(Make.ofBand("LL", Make.rows("127")), 0);
        for (int passes = 1; passes <= 19; passes++) {
            int planes = 1 + passes / 3;
            int due = 127 >> 7 - planes << 7 - planes;
            same(passes + " passes of 127", numbersOf(Make.oneBand(1, 1, 7, passes, code)), due);
        }
        // none taken: every pixel is 128
        WaveletStream w = Make.noise(5, 3, 1);
        w.encode(2, 2);
        w.decode(4);
        for (int i = 0; i < 15; i++) {
            check.equal("decoded", w.decoded(i % 5, i / 5), 128);
        }
        // in layers: the bytes of both are one row
        WaveletStream v = Make.noise(4, 4, 2);
        int size = v.encode(0, 3);
        v.decode(size);
        check.equal("difference()", v.difference(), 0);
    }

    private void rowsFirst() {
        says("The wavelet goes back, level by level, rows first;");
        // HH 1 alone: the row below is -1 0, so the first column 0 -1; columns first it were 0 -1 / 0 0
        int[] one = Make.join(new int[] {2, 2, 1, 1, 0}, Make.bits("1 0 0 1 0001 0 0 001"), Make.bytes("03"));
        WaveletStream w = Make.poked(one);
        check.equal("packets", w.decode(one.length), 2);
        same("pixels", Make.decoded(w, 2, 2), 128, 128, 127, 128);
        // HL 1 alone: the row above is -1 0; LH 1 alone: the column is -1 0
        one = Make.join(new int[] {2, 2, 1, 1, 0}, Make.bits("1 1 0001 0 0 001 0 0"), Make.bytes("03"));
        w = Make.poked(one);
        w.decode(one.length);
        same("pixels of HL", Make.decoded(w, 2, 2), 127, 128, 127, 128);
        one = Make.join(new int[] {2, 2, 1, 1, 0}, Make.bits("1 0 1 0001 0 0 001 0"), Make.bytes("03"));
        w = Make.poked(one);
        w.decode(one.length);
        same("pixels of LH", Make.decoded(w, 2, 2), 127, 127, 128, 128);
    }

    private void cutToPixels() {
        says("numbers and 128 are the pixels, below 0 it is 0, above 255 it is 255.");
        int[][] due = {{126, 254}, {127, 255}, {128, 255}, {129, 255}, {4095, 255}, {-127, 1}, {-128, 0}, {-129, 0},
            {-4095, 0}, {1, 129}, {-1, 127}};
        for (int[] d : due) {
            Reference.Band band = new Reference.Band("LL", new int[][] {{d[0]}});
            Reference.code(band);
            int[] one = Make.oneBand(1, 1, band.planes, band.passes, Make.ints(band.codeword));
            WaveletStream w = Make.poked(one);
            check.equal("packets", w.decode(one.length), 1);
            check.equal("pixel of " + d[0], w.decoded(0, 0), d[1]);
        }
    }

    private void boundsOfTheFirstFour() {
        says("The stream is MALFORMED, if one of the first four bytes is out of its bounds,");
        int[][] bounds = {{1, 8}, {1, 8}, {0, 3}, {1, 3}};
        for (int i = 0; i < 4; i++) {
            for (int v = 0; v < 256; v++) {
                int[] heads = {1, 1, 0, 1, 0, 0, 0, 0, 0, 0, 0, 0, 0, 0, 0, 0};
                heads[i] = v;
                if (v < bounds[i][0] || v > bounds[i][1]) {
                    malformed("byte " + i + " is " + v, 4, heads);
                    malformed("byte " + i + " is " + v, 16, heads);
                } else {
                    packets("byte " + i + " is " + v, 4, 0, heads);
                    packets("byte " + i + " is " + v, 16, heads[3] * (heads[2] + 1), heads);
                }
            }
        }
    }

    private void planesTold() {
        says("or a packet that is looked at tells planes that are 0 or more than 12,");
        for (int planes = 0; planes <= 15; planes++) {
            int[] one = Make.join(new int[] {1, 1, 0, 1}, Make.bits("1 1" + Reference.binary(planes, 4) + "0 0 000"));
            int[] second = Make.join(new int[] {1, 1, 0, 2, 0}, Make.bits("1 1" + Reference.binary(planes, 4)
                + "0 0 000"));
            int[] hl = Make.join(new int[] {2, 2, 1, 1, 0}, Make.bits("1 1" + Reference.binary(planes, 4)
                + "0 0 000 0 0"));
            int[] lh = Make.join(new int[] {2, 2, 1, 1, 0}, Make.bits("1 0 1" + Reference.binary(planes, 4)
                + "0 0 000 0"));
            int[] hh = Make.join(new int[] {2, 2, 1, 1, 0}, Make.bits("1 0 0 1" + Reference.binary(planes, 4)
                + "0 0 000"));
            if (planes == 0 || planes > 12) {
                malformed(planes + " planes", 6, one);
                malformed(planes + " planes in the second layer", 7, second);
                malformed(planes + " planes of HL", 7, hl);
                malformed(planes + " planes of LH", 7, lh);
                malformed(planes + " planes of HH", 7, hh);
            } else {
                packets(planes + " planes", 6, 1, one);
                packets(planes + " planes in the second layer", 7, 2, second);
                packets(planes + " planes of HL", 7, 2, hl);
                packets(planes + " planes of LH", 7, 2, lh);
                packets(planes + " planes of HH", 7, 2, hh);
            }
        }
    }

    private void planesAsSoonAsThere() {
        says("(as soon as these bits are there, also when the packet does not lie in them as a whole).");
        for (int planes : new int[] {0, 13, 14, 15}) {
            String four = Reference.binary(planes, 4);
            // the four bits are there, the passes are cut behind 11; before that nothing is there
            int[] one = Make.join(new int[] {1, 1, 0, 1}, Make.bits("1 1" + four + "11"));
            malformed(planes + " planes, the passes cut", 5, one);
            packets(planes + " planes not there", 4, 0, one);
            // the four bits end with the byte
            int[] ends = Make.join(new int[] {2, 2, 1, 1, 0}, Make.bits("1 1 0001 0 0 000 1" + four), new int[] {0});
            malformed(planes + " planes, and no bit behind them", 7, ends);
            packets(planes + " planes of which one bit is there", 6, 1, ends);
            // two of the four bits are there
            int[] half = Make.join(new int[] {2, 2, 1, 1, 0}, Make.bits("1 1 0010 10 0 0000 1" + four), new int[] {0});
            packets(planes + " planes of which two bits are there", 7, 1, half);
            malformed(planes + " planes of which all bits are there", 8, half);
            // the bytes of the band before are not there
            int[] before = Make.join(new int[] {2, 2, 1, 1, 0}, Make.bits("1 1 0001 0 0 111 1" + four), new int[] {0});
            malformed(planes + " planes, seven bytes not there", 7, before);
        }
    }

    private void passesTold() {
        says("or more passes than there are with these planes");
        for (int planes = 1; planes <= 12; planes++) {
            for (int n = 1; n <= 37; n++) {
                int[] one = Make.oneBand(1, 1, planes, n);
                int[] hh = Make.join(new int[] {2, 2, 1, 1, 0}, Make.bits("1 0 0 1" + Reference.binary(planes, 4)
                    + Make.count(n) + "0" + Reference.binary(0, 3 + Reference.logarithm(n))));
                if (n > 3 * planes - 2) {
                    malformed(n + " passes of " + planes + " planes", one.length, one);
                    malformed(n + " passes of " + planes + " planes, HH", hh.length, hh);
                } else {
                    packets(n + " passes of " + planes + " planes", one.length, 1, one);
                    packets(n + " passes of " + planes + " planes, HH", hh.length, 2, hh);
                }
            }
        }
    }

    private void passesAsSoonAsThere() {
        says("(as soon as these bits are there, also when the packet does not lie in them as a whole).");
        int[] start = {2, 2, 1, 1, 0};
        // 1 plane has 1 pass; of 10 the first bit is there, then both
        int[] two = Make.join(start, Make.bits("1 0 1 0001 10 0 0000 0"));
        packets("1 alone", 6, 1, two);
        malformed("10", 7, two);
        // 11 is there, then 11 and two bits; of these, one
        int[] three = Make.join(start, Make.bits("1 1 0001 11 00 0 0000 0 0"));
        packets("11 alone", 6, 1, three);
        malformed("1100", 7, three);
        int[] split = Make.join(start, Make.bits("1 0 1 0001 0 110 00000 1 0001 11 00 0 0000"));
        packets("110 of 1100", 8, 1, split);
        malformed("1100, its last bit in the next byte", 9, split);
        // 1111 and four of the five bits, then all of them
        int[] six = Make.join(start, Make.bits("1 0 0 1 0001 1111 00000 0 00000"));
        packets("1111 and four bits", 7, 1, six);
        malformed("1111 and five bits", 8, six);
        int[] none = Make.join(new int[] {2, 2, 1, 1, 0}, Make.bits("1 1 0001 0 110 00000 1 0001 1111 00000 0 00000"));
        packets("1111 and no bit", 8, 1, none);
        malformed("1111 and five bits, in the fourth byte", 9, none);
        // the passes are there, their length is not
        int[] lengths = Make.join(new int[] {1, 1, 0, 1}, Make.bits("1 1 0001 10"), new int[] {0, 0});
        malformed("two passes, their length not there", 5, lengths);
        // the passes are there, the bytes of the band before are not
        int[] before = Make.join(start, Make.bits("1 1 0001 0 0 111 1 0001 10 0"), new int[] {0});
        malformed("two passes, seven bytes not there", 8, before);
        packets("cut before the second bit", 7, 1, before);
    }

    private void passesOfAllLayers() {
        says("more passes than there are with these planes");
        // 2 planes have 4 passes: 1 and 3, 1 and 4; 3 and 1, 3 and 2
        int[] one = Make.join(new int[] {1, 1, 0, 2}, Make.bits("1 1 0010 0 0 000"));
        int[] three = Make.join(new int[] {1, 1, 0, 2}, Make.bits("1 1 0010 1100 0 0000"));
        packets("1 and 3", 8, 2, Make.join(one, Make.bits("1 1 1100 0 0000")));
        malformed("1 and 4", 8, Make.join(one, Make.bits("1 1 1101 0 00000")));
        packets("3 and 1", 8, 2, Make.join(three, Make.bits("1 1 0 0 000"), new int[] {0}));
        malformed("3 and 2", 8, Make.join(three, Make.bits("1 1 10 0 0000"), new int[] {0}));
        malformed("3 and 2, the length not there", 7, Make.join(three, Make.bits("1 1 10 1111")));
        // all in the first layer, none in the second, and one more in the third
        int[] all = Make.join(new int[] {1, 1, 0, 3}, Make.bits("1 1 0001 0 0 000"));
        packets("1 and none", 8, 3, Make.join(all, new int[] {0, 0}));
        malformed("1 and none and 1", 8, Make.join(all, new int[] {0, 0xc0}));
        packets("1 and none and none", 8, 3, Make.join(all, new int[] {0x80, 0x80}));
    }

    private void lookedAt() {
        says("a packet that is looked at");
        // behind the last packet nothing is looked at, nor behind one that is cut
        packets("bytes behind the last packet", 8, 1, 1, 1, 0, 1, 0, 0xff, 0xff, 0xff);
        int[] cut = Make.join(new int[] {1, 1, 0, 2}, Make.bits("1 1 0001 0 0 011"),
            Make.bytes("ff ff ff ff ff"));
        packets("a packet that is cut", 8, 0, cut);
        packets("the one behind it, its passes cut", 10, 1, cut);
        malformed("the one behind it", 11, cut);
        // a head of the first n bytes alone
        packets("a head that is not there", 5, 1, 1, 1, 0, 2, 0, 0xff, 0xff);
        malformed("a head that is there", 6, 1, 1, 0, 2, 0, 0xff, 0xff);
    }
}
