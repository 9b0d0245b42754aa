/** "What it is" and "Promise 1" to "Promise 15", sentence by sentence: what is too small, too large, not there. */
final class CallSentences extends Sentences {
    private static final int LEAST = Integer.MIN_VALUE;
    private static final int MOST = Integer.MAX_VALUE;
    private static final int[] FAR = {-1, -2, 300, LEAST, LEAST + 1, MOST, MOST - 1, 1 << 16, 1 << 29, 1 << 30};

    private CallSentences(Check check, String document) {
        super(check, document);
    }

    static void run(Check check, String document) {
        CallSentences t = new CallSentences(check, document);
        t.anyBeginning();
        t.calls();
        t.none();
        t.newObject();
        t.newPicture();
        t.pictureRefused();
        t.paint();
        t.paintRefused();
        t.pixel();
        t.encode();
        t.encodeRefused();
        t.stream();
        t.poke();
        t.band();
        t.number();
        t.codeword();
        t.least();
        t.decode();
        t.decodeRefused();
        t.decodeMalformed();
        t.decoded();
        t.taken();
        t.difference();
        t.otherSize();
    }

    private void anyBeginning() {
        says("any beginning of the stream, of four bytes or more, gives a picture, the whole stream gives the picture "
            + "itself.");
        for (int k = 0; k < 64; k++) {
            int width = 1 + k % 8;
            int height = 1 + k / 8;
            WaveletStream w = Make.noise(width, height, k);
            int size = w.encode(k % 4, 1 + k % 3);
            for (int n = 0; n <= size; n++) {
                int some = n;
                if (n < 4) {
                    check.refuses("decode(" + n + ")", () -> w.decode(some));
                    check.equal("decoded(0, 0)", w.decoded(0, 0), NONE);
                    continue;
                }
                w.decode(n);
                check.that("a pixel", w.decoded(width - 1, height - 1) >= 0 && w.decoded(0, 0) <= 255);
                check.equal("behind it", w.decoded(width, 0), NONE);
                check.that("a difference", w.difference() >= 0 && w.difference() <= 255);
            }
            check.equal("difference()", w.difference(), 0);
        }
    }

    /** 512 calls, of which as many as can be are the dearest: the last ones answer like the first ones. */
    private void calls() {
        says("An object is used for at most 512 calls after it has been made;");
        WaveletStream w = new WaveletStream();
        WaveletStream other = Make.noise(8, 8, 4);
        int due = other.encode(3, 3);
        w.picture(8, 8);
        for (int i = 0; i < 64; i++) {
            w.paint(i % 8, i / 8, other.pixel(i % 8, i / 8));
        }
        for (int call = 65; call < 509; call += 2) {
            check.equal("encode(3, 3), call " + call, w.encode(3, 3), due);
            check.equal("decode, call " + (call + 1), w.decode(due), 12);
        }
        check.equal("stream, call 510", w.stream(due - 1), other.stream(due - 1));
        check.equal("taken(9), call 511", w.taken(9), other.band(9, 3));
        check.equal("difference(), call 512", w.difference(), 0);
    }

    private void none() {
        says("`NONE = -100000`: There is none.");
        check.equal("NONE", NONE, -100000);
    }

    private void newObject() {
        says("A picture of one pixel; no stream, nothing decoded.");
        WaveletStream w = new WaveletStream();
        check.equal("pixel(0, 0)", w.pixel(0, 0), 0);
        check.equal("pixel(1, 0)", w.pixel(1, 0), NONE);
        check.equal("pixel(0, 1)", w.pixel(0, 1), NONE);
        check.equal("stream(0)", w.stream(0), NONE);
        check.that("poke(0, 0)", !w.poke(0, 0));
        check.equal("stream(0) after poke", w.stream(0), NONE);
        for (int n : new int[] {0, 1, 4, 5, 8, MOST, LEAST}) {
            check.refuses("decode(" + n + ")", () -> w.decode(n));
        }
        check.equal("decoded(0, 0)", w.decoded(0, 0), NONE);
        check.equal("difference()", w.difference(), NONE);
        for (int b = -1; b <= 10; b++) {
            check.equal("taken(" + b + ")", w.taken(b), NONE);
            for (int what = -1; what <= 5; what++) {
                check.equal("band(" + b + ", " + what + ")", w.band(b, what), NONE);
                check.equal("codeword(" + b + ", " + what + ")", w.codeword(b, what), NONE);
                check.equal("least(" + b + ", " + what + ")", w.least(b, what), NONE);
                check.equal("number(" + b + ", " + what + ", 0)", w.number(b, what, 0), NONE);
                check.equal("number(" + b + ", 0, " + what + ")", w.number(b, 0, what), NONE);
            }
        }
        // each object has its own
        w.paint(0, 0, 9);
        w.encode(0, 1);
        check.equal("another's pixel(0, 0)", new WaveletStream().pixel(0, 0), 0);
        check.equal("another's stream(0)", new WaveletStream().stream(0), NONE);
    }

    private void newPicture() {
        says("A new picture (the stream, and what was decoded, stay).");
        WaveletStream w = Make.noise(3, 2, 1);
        int size = w.encode(1, 2);
        int[] stream = Make.stream(w);
        w.decode(size);
        int[] pixels = Make.decoded(w, 3, 2);
        w.picture(3, 2);
        for (int i = 0; i < 6; i++) {
            check.equal("pixel", w.pixel(i % 3, i / 3), 0);
        }
        same("stream", Make.stream(w), stream);
        same("decoded", Make.decoded(w, 3, 2), pixels);
        check.equal("taken(3)", w.taken(3), w.band(3, 3));
        check.equal("number(0, 1, 0)", w.number(0, 1, 0) == NONE ? 1 : 0, 0);
        int greatest = 0;
        for (int v : pixels) {
            greatest = Math.max(greatest, v);
        }
        check.equal("difference()", w.difference(), greatest);
        w.picture(8, 8);
        check.equal("packets of the stream that stays", w.decode(size), 4);
        same("decoded", Make.decoded(w, 3, 2), pixels);
        // greater, then smaller, then greater again: nothing of an earlier one is left
        w.paint(7, 7, 200);
        w.picture(1, 1);
        check.equal("pixel(7, 7)", w.pixel(7, 7), NONE);
        w.picture(8, 8);
        check.equal("pixel(7, 7)", w.pixel(7, 7), 0);
    }

    private void pictureRefused() {
        says("IllegalArgumentException when width or height is not 1 .. 8.");
        WaveletStream w = Make.drawn(2, 1, 10, 20);
        int[] wrong = {0, 9, -1, -8, LEAST, MOST, LEAST + 1, 256 + 1, (1 << 31) + 3};
        for (int side : wrong) {
            for (int good = 1; good <= 8; good++) {
                int g = good;
                check.refuses("picture(" + side + ", " + g + ")", () -> w.picture(side, g));
                check.refuses("picture(" + g + ", " + side + ")", () -> w.picture(g, side));
            }
            check.refuses("picture(" + side + ", " + side + ")", () -> w.picture(side, side));
        }
        check.equal("pixel(1, 0) stays", w.pixel(1, 0), 20);
        check.equal("pixel(2, 0)", w.pixel(2, 0), NONE);
        for (int side : new int[] {1, 8}) {
            w.picture(side, side);
            check.equal("the last pixel", w.pixel(side - 1, side - 1), 0);
        }
    }

    private void paint() {
        says("A pixel becomes v.");
        WaveletStream w = Make.drawn(8, 8);
        for (int v : new int[] {0, 1, 127, 128, 254, 255, 0}) {
            for (int place : new int[] {0, 7, 56, 63, 27}) {
                w.paint(place % 8, place / 8, v);
                check.equal("pixel", w.pixel(place % 8, place / 8), v);
            }
        }
        w.paint(3, 5, 77);
        for (int i = 0; i < 64; i++) {
            check.equal("pixel " + i, w.pixel(i % 8, i / 8), i == 43 ? 77 : 0);
        }
    }

    private void paintRefused() {
        says("IllegalArgumentException when there is no such pixel, or v is not 0 .. 255.");
        WaveletStream w = Make.drawn(3, 2, 1, 2, 3, 4, 5, 6);
        for (int far : new int[] {-1, LEAST, MOST, 3, 8, 256, LEAST + 2}) {
            check.refuses("paint(" + far + ", 0, 9)", () -> w.paint(far, 0, 9));
            check.refuses("paint(0, " + (far == 3 ? 2 : far) + ", 9)", () -> w.paint(0, far == 3 ? 2 : far, 9));
            check.refuses("paint(" + far + ", 0, 256)", () -> w.paint(far, 0, 256));
        }
        for (int v : new int[] {-1, 256, LEAST, MOST, 512}) {
            check.refuses("paint(0, 0, " + v + ")", () -> w.paint(0, 0, v));
        }
        for (int i = 0; i < 6; i++) {
            check.equal("pixel " + i + " stays", w.pixel(i % 3, i / 3), i + 1);
        }
        w.paint(2, 1, 255);
        w.paint(0, 0, 0);
        check.equal("pixel(2, 1)", w.pixel(2, 1), 255);
        check.equal("pixel(0, 0)", w.pixel(0, 0), 0);
    }

    private void pixel() {
        says("A pixel; NONE when there is none.");
        WaveletStream w = Make.drawn(3, 2, 1, 2, 3, 4, 5, 6);
        for (int y = -1; y <= 3; y++) {
            for (int x = -1; x <= 4; x++) {
                check.equal("pixel(" + x + ", " + y + ")", w.pixel(x, y),
                    x >= 0 && x < 3 && y >= 0 && y < 2 ? 1 + x + 3 * y : NONE);
            }
        }
        for (int far : FAR) {
            check.equal("pixel(" + far + ", 0)", w.pixel(far, 0), NONE);
            check.equal("pixel(0, " + far + ")", w.pixel(0, far), NONE);
            check.equal("pixel(" + far + ", " + far + ")", w.pixel(far, far), NONE);
        }
    }

    private void encode() {
        says("Packs the picture: how many bytes the stream has.");
        WaveletStream w = new WaveletStream();
        for (int levels = 0; levels <= 3; levels++) {
            for (int layers = 1; layers <= 3; layers++) {
                int size = w.encode(levels, layers);
                check.equal("encode(" + levels + ", " + layers + ")", Make.stream(w).length, size);
            }
        }
        check.equal("encode(0, 1)", w.encode(0, 1), 8);
        w.paint(0, 0, 128);
        check.equal("the least stream", w.encode(0, 1), 5);
        // the decoded picture, and what was taken, stay; the stream is a new one
        w.decode(5);
        w.picture(2, 2);
        w.encode(1, 1);
        check.equal("decoded(0, 0)", w.decoded(0, 0), 128);
        check.equal("decoded(1, 1)", w.decoded(1, 1), NONE);
        check.equal("taken(1)", w.taken(1), NONE);
        check.equal("stream(0)", w.stream(0), 2);
    }

    private void encodeRefused() {
        says("IllegalArgumentException when levels is not 0 .. 3, or layers not 1 .. 3.");
        WaveletStream w = Make.noise(4, 4, 1);
        w.encode(1, 2);
        int[] stream = Make.stream(w);
        int[] code = Make.codeword(w, 3);
        w.picture(2, 2);
        for (int wrong : new int[] {-1, 4, 5, LEAST, MOST, 256, LEAST + 1}) {
            for (int good = 0; good <= 3; good++) {
                int g = good;
                check.refuses("encode(" + wrong + ", " + g + ")", () -> w.encode(wrong, g));
                check.refuses("encode(" + g + ", " + wrong + ")", () -> w.encode(g, wrong));
            }
        }
        for (int levels = 0; levels <= 3; levels++) {
            int l = levels;
            check.refuses("encode(" + l + ", 0)", () -> w.encode(l, 0));
        }
        same("the stream stays", Make.stream(w), stream);
        same("the codeword stays", Make.codeword(w, 3), code);
        check.equal("band(4, 0)", w.band(4, 0), NONE);
        check.equal("band(0, 0)", w.band(0, 0), 2);
        for (int levels = 0; levels <= 3; levels += 3) {
            for (int layers = 1; layers <= 3; layers += 2) {
                check.that("encode(" + levels + ", " + layers + ")", w.encode(levels, layers) > 4);
            }
        }
    }

    private void stream() {
        says("Byte i of the stream; NONE when there is none.");
        WaveletStream w = new WaveletStream();
        w.encode(0, 1);
        same("stream", Make.stream(w), 1, 1, 0, 1, 0xe3, 0xe0, 2, 7);
        check.equal("stream(8)", w.stream(8), NONE);
        for (int far : FAR) {
            check.equal("stream(" + far + ")", w.stream(far), NONE);
        }
        // a shorter stream behind a longer one
        w.paint(0, 0, 128);
        w.encode(0, 1);
        check.equal("stream(4)", w.stream(4), 0);
        for (int i = 5; i <= 9; i++) {
            check.equal("stream(" + i + ")", w.stream(i), NONE);
        }
    }

    private void poke() {
        says("Byte i of the stream becomes b: true; false when there is no such byte, or b is not 0 .. 255.");
        WaveletStream w = new WaveletStream();
        w.encode(0, 1);
        int[] due = Make.stream(w);
        for (int far : FAR) {
            check.that("poke(" + far + ", 1)", !w.poke(far, 1));
            check.that("poke(0, " + (far == 1 << 16 ? 256 : far) + ")", !w.poke(0, far == 1 << 16 ? 256 : far));
        }
        check.that("poke(8, 1)", !w.poke(8, 1));
        check.that("poke(8, 256)", !w.poke(8, 256));
        same("nothing is changed", Make.stream(w), due);
        for (int i : new int[] {0, 7}) {
            for (int b : new int[] {0, 255, 128, 1}) {
                check.that("poke(" + i + ", " + b + ")", w.poke(i, b));
                check.equal("stream(" + i + ")", w.stream(i), b);
            }
        }
        // the first and the last one are changed, no other, and nothing of the encoding
        due[0] = 1;
        due[7] = 1;
        same("stream", Make.stream(w), due);
        same("codeword", Make.codeword(w, 0), 7);
        check.equal("pixel(0, 0)", w.pixel(0, 0), 0);
    }

    private void band() {
        says("what = 0 its width, 1 its height, 2 its planes, 3 its passes, 4 how many bytes its codeword has. NONE "
            + "when there is none such.");
        WaveletStream w = Make.ofBand("HH", Make.rows("0 -2 -2 0"));
        int[] due = {4, 1, 2, 4, 2};
        for (int what = 0; what < 5; what++) {
            check.equal("band(3, " + what + ")", w.band(3, what), due[what]);
            check.equal("band(4, " + what + ")", w.band(4, what), NONE);
            check.equal("band(-1, " + what + ")", w.band(-1, what), NONE);
        }
        for (int b = 0; b < 4; b++) {
            check.equal("band(" + b + ", 5)", w.band(b, 5), NONE);
            check.equal("band(" + b + ", -1)", w.band(b, -1), NONE);
        }
        for (int far : FAR) {
            check.equal("band(" + far + ", 0)", w.band(far, 0), NONE);
            check.equal("band(0, " + far + ")", w.band(0, far), NONE);
        }
        says("Of a band of the latest encoding:");
        w.encode(3, 1);
        check.equal("band(9, 0)", w.band(9, 0), 4);
        check.equal("band(10, 0)", w.band(10, 0), NONE);
        w.encode(0, 1);
        check.equal("band(1, 0)", w.band(1, 0), NONE);
        check.equal("band(0, 0)", w.band(0, 0), 8);
    }

    private void number() {
        says("A number of a band of it; NONE when there is none.");
        WaveletStream w = Make.ofBand("HH", Make.rows("0 -2 / -3 1"));
        for (int y = -1; y <= 2; y++) {
            for (int x = -1; x <= 2; x++) {
                int due = x < 0 || x > 1 || y < 0 || y > 1 ? NONE : Make.rows("0 -2 / -3 1")[y][x];
                check.equal("number(3, " + x + ", " + y + ")", w.number(3, x, y), due);
                check.equal("number(4, " + x + ", " + y + ")", w.number(4, x, y), NONE);
                check.equal("number(-1, " + x + ", " + y + ")", w.number(-1, x, y), NONE);
            }
        }
        for (int far : FAR) {
            check.equal("number(" + far + ", 0, 0)", w.number(far, 0, 0), NONE);
            check.equal("number(3, " + far + ", 0)", w.number(3, far, 0), NONE);
            check.equal("number(3, 0, " + far + ")", w.number(3, 0, far), NONE);
        }
        // of the encoding, not of the picture that is there now
        w.picture(1, 1);
        check.equal("number(3, 1, 0)", w.number(3, 1, 0), -2);
        check.equal("number(3, 0, 1)", w.number(3, 0, 1), -3);
    }

    private void codeword() {
        says("Byte i of a band's codeword; NONE when there is none.");
        WaveletStream w = Make.ofBand("HH", Make.rows("0 -2 -2 0"));
        check.equal("codeword(3, 0)", w.codeword(3, 0), 0x0b);
        check.equal("codeword(3, 1)", w.codeword(3, 1), 0xc9);
        check.equal("codeword(3, 2)", w.codeword(3, 2), NONE);
        check.equal("codeword(3, -1)", w.codeword(3, -1), NONE);
        check.equal("codeword(0, 0)", w.codeword(0, 0), NONE);
        check.equal("codeword(4, 0)", w.codeword(4, 0), NONE);
        for (int far : FAR) {
            check.equal("codeword(" + far + ", 0)", w.codeword(far, 0), NONE);
            check.equal("codeword(3, " + far + ")", w.codeword(3, far), NONE);
        }
        // bytes that the stream does not have are bytes of the codeword all the same; the next band's are not
        WaveletStream v = Make.ofBand("LL", Make.rows("0 0 / -1 1"));
        same("codeword", Make.codeword(v, 0), Make.bytes("0b ff 7f"));
        WaveletStream u = Make.ofBands(Make.rows("-1"), Make.rows("1"), Make.rows("1"), Make.rows("-1"));
        int[] due = {7, 3, 3, 7};
        for (int b = 0; b < 4; b++) {
            check.equal("codeword(" + b + ", 0)", u.codeword(b, 0), due[b]);
            check.equal("codeword(" + b + ", 1)", u.codeword(b, 1), NONE);
        }
    }

    private void least() {
        says("The least length of a band's codeword for so many passes; NONE when there are not so many.");
        WaveletStream w = Make.ofBand("HH", Make.rows("0 -2 -2 0"));
        check.equal("least(3, 0)", w.least(3, 0), 0);
        check.that("least(3, 4)", w.least(3, 4) > 0 && w.least(3, 4) <= 2);
        check.equal("least(3, 5)", w.least(3, 5), NONE);
        check.equal("least(3, -1)", w.least(3, -1), NONE);
        check.equal("least(0, 0)", w.least(0, 0), 0);
        check.equal("least(0, 1)", w.least(0, 1), NONE);
        check.equal("least(4, 0)", w.least(4, 0), NONE);
        for (int far : FAR) {
            check.equal("least(" + far + ", 0)", w.least(far, 0), NONE);
            check.equal("least(3, " + far + ")", w.least(3, far), NONE);
        }
        // the most passes that a picture gives: 9 planes, 25 passes
        WaveletStream v = Make.drawn(2, 2, 255, 0, 0, 255);
        v.encode(1, 1);
        check.equal("passes", v.band(3, 3), 25);
        check.that("least(3, 25)", v.least(3, 25) > 0);
        check.equal("least(3, 26)", v.least(3, 26), NONE);
    }

    private void decode() {
        says("Decodes the first n bytes of the stream: how many packets were taken.");
        WaveletStream w = Make.drawn(2, 1, 138, 148);
        int size = w.encode(1, 1);
        int[] stream = Make.stream(w);
        int first = 4;
        while (first < size && w.decode(first) == 0) {
            first++;
        }
        check.equal("one byte less", w.decode(first - 1), 0);
        check.equal("taken(0)", w.taken(0), 0);
        check.equal("the first packet", w.decode(first), 1);
        check.equal("taken(0)", w.taken(0), w.band(0, 3));
        check.equal("taken(1)", w.taken(1), 0);
        check.equal("all but one byte", w.decode(size - 1), 1);
        check.equal("all", w.decode(size), 2);
        check.equal("taken(1)", w.taken(1), w.band(1, 3));
        check.equal("the least", w.decode(4), 0);
        check.equal("taken(1)", w.taken(1), 0);
        same("the stream stays", Make.stream(w), stream);
    }

    private void decodeRefused() {
        says("IllegalArgumentException when n is below 4 or there are not so many, or the stream is malformed: what "
            + "was decoded before stays.");
        WaveletStream w = Make.noise(3, 3, 1);
        int size = w.encode(1, 1);
        w.decode(size);
        for (int n : new int[] {3, 2, 1, 0, -1, -4, size + 1, size + 2, LEAST, MOST, 1024, 1 << 16}) {
            check.refuses("decode(" + n + ")", () -> w.decode(n));
            check.equal("difference()", w.difference(), 0);
            check.equal("taken(3)", w.taken(3), w.band(3, 3));
        }
        check.equal("decode(4)", w.decode(4), 0);
        check.equal("decode(size)", w.decode(size), 2);
        // a shorter stream behind a longer one: its own bytes count
        w.picture(1, 1);
        w.paint(0, 0, 128);
        w.encode(0, 1);
        check.refuses("decode(6) of five bytes", () -> w.decode(6));
        check.equal("decoded(2, 2) stays", w.decoded(2, 2) == NONE ? 1 : 0, 0);
        check.equal("decode(5)", w.decode(5), 1);
    }

    private void decodeMalformed() {
        says("or the stream is malformed: what was decoded before stays.");
        WaveletStream w = Make.noise(4, 4, 1);
        int size = w.encode(1, 3);
        w.decode(size);
        int[] pixels = Make.decoded(w, 4, 4);
        // the second packet's first band tells no planes, the first packet is as it was
        int second = 4;
        while (w.decode(second) < 1) {
            second++;
        }
        w.decode(size);
        w.poke(second, 0xc0);
        w.poke(second + 1, 0);
        for (int n = second + 1; n <= size; n++) {
            int some = n;
            check.refuses("decode(" + n + ")", () -> w.decode(some));
        }
        same("decoded", Make.decoded(w, 4, 4), pixels);
        for (int b = 0; b < 4; b++) {
            check.equal("taken(" + b + ")", w.taken(b), w.band(b, 3));
        }
        check.equal("difference()", w.difference(), 0);
        // sizes and levels of a stream that is refused are not those of what was decoded
        w.poke(0, 1);
        w.poke(2, 0);
        w.poke(4, 0xc0);
        check.refuses("decode(all)", () -> w.decode(size));
        check.equal("decoded(3, 3)", w.decoded(3, 3), pixels[15]);
        check.equal("taken(3)", w.taken(3), w.band(3, 3));
        check.equal("taken(4)", w.taken(4), NONE);
        // what is right of it can be decoded
        check.equal("decode(4)", w.decode(4), 0);
        check.equal("decoded(0, 3)", w.decoded(0, 3), 128);
        check.equal("decoded(1, 0)", w.decoded(1, 0), NONE);
        check.equal("taken(1)", w.taken(1), NONE);
    }

    private void decoded() {
        says("A pixel of the picture that was decoded; NONE when there is none.");
        WaveletStream w = Make.drawn(3, 2, 1, 2, 3, 4, 5, 6);
        int size = w.encode(1, 1);
        check.equal("decoded(0, 0), before", w.decoded(0, 0), NONE);
        w.decode(size);
        w.picture(8, 8);
        for (int y = -1; y <= 3; y++) {
            for (int x = -1; x <= 4; x++) {
                check.equal("decoded(" + x + ", " + y + ")", w.decoded(x, y),
                    x >= 0 && x < 3 && y >= 0 && y < 2 ? 1 + x + 3 * y : NONE);
            }
        }
        for (int far : FAR) {
            check.equal("decoded(" + far + ", 0)", w.decoded(far, 0), NONE);
            check.equal("decoded(0, " + far + ")", w.decoded(0, far), NONE);
        }
        // the size is the stream's
        w.poke(0, 1);
        w.poke(1, 8);
        w.decode(4);
        check.equal("decoded(0, 7)", w.decoded(0, 7), 128);
        check.equal("decoded(1, 0)", w.decoded(1, 0), NONE);
        check.equal("decoded(0, 8)", w.decoded(0, 8), NONE);
    }

    private void taken() {
        says("How many passes of a band were taken in the latest decoding; NONE when there is no such band in it.");
        WaveletStream w = Make.noise(8, 8, 1);
        int size = w.encode(3, 3);
        check.equal("taken(0), before", w.taken(0), NONE);
        w.decode(size);
        for (int b = 0; b <= 9; b++) {
            check.equal("taken(" + b + ")", w.taken(b), w.band(b, 3));
        }
        check.equal("taken(10)", w.taken(10), NONE);
        for (int far : FAR) {
            check.equal("taken(" + far + ")", w.taken(far), NONE);
        }
        w.poke(2, 1);
        w.decode(4);
        for (int b = 0; b <= 3; b++) {
            check.equal("taken(" + b + ")", w.taken(b), 0);
        }
        check.equal("taken(4)", w.taken(4), NONE);
        w.poke(2, 0);
        w.decode(4);
        check.equal("taken(0)", w.taken(0), 0);
        check.equal("taken(1)", w.taken(1), NONE);
    }

    private void difference() {
        says("The greatest difference of a pixel of the picture and of that which was decoded;");
        WaveletStream w = Make.drawn(2, 2, 0, 255, 128, 129);
        w.encode(0, 1);
        w.decode(4);
        check.equal("below, then above", w.difference(), 128);
        w.paint(0, 0, 1);
        check.equal("as much on both sides", w.difference(), 127);
        w.paint(1, 0, 128);
        check.equal("below", w.difference(), 127);
        w.paint(0, 0, 128);
        check.equal("the last pixel", w.difference(), 1);
        w.paint(1, 1, 128);
        check.equal("none", w.difference(), 0);
        // the most there is: 255
        WaveletStream v = Make.drawn(1, 1, 255);
        v.decode(v.encode(0, 1));
        v.paint(0, 0, 0);
        check.equal("difference()", v.difference(), 255);
        // the first pixel alone
        WaveletStream u = Make.drawn(8, 8);
        u.decode(u.encode(2, 2));
        for (int place = 0; place < 64; place++) {
            u.paint(place % 8, place / 8, 3);
            check.equal("pixel " + place, u.difference(), 3);
            u.paint(place % 8, place / 8, 0);
        }
    }

    private void otherSize() {
        says("NONE when they have not the same size.");
        WaveletStream w = new WaveletStream();
        check.equal("nothing decoded", w.difference(), NONE);
        w.decode(w.encode(0, 1));
        check.equal("one pixel", w.difference(), 0);
        for (int width = 1; width <= 8; width++) {
            for (int height = 1; height <= 8; height++) {
                w.picture(width, height);
                check.equal(width + " x " + height, w.difference(), width * height == 1 ? 0 : NONE);
            }
        }
        w.picture(2, 4);
        w.decode(w.encode(0, 1));
        int[][] others = {{4, 2}, {2, 3}, {3, 4}, {1, 8}, {8, 1}, {1, 4}, {2, 8}};
        for (int[] other : others) {
            w.picture(other[0], other[1]);
            check.equal(other[0] + " x " + other[1], w.difference(), NONE);
        }
        w.picture(2, 4);
        check.equal("2 x 4", w.difference(), 0);
    }
}
