/** The document's "Terms", sentence by sentence: the picture, the wavelet and the bands. */
final class WaveletSentences extends Sentences {
    private WaveletSentences(Check check, String document) {
        super(check, document);
    }

    static void run(Check check, String document) {
        WaveletSentences t = new WaveletSentences(check, document);
        t.picture();
        t.numbers();
        t.rowsOfEveryLength();
        t.roundedDown();
        t.behindTheRow();
        t.beforeTheFirst();
        t.behindTheLast();
        t.oneNumberOnly();
        t.columnsFirst();
        t.lowGoesOn();
        t.order();
        t.empty();
        t.withoutLevels();
    }

    private void picture() {
        says("A PICTURE has a width and a height, 1 .. 8, and PIXELS 0 .. 255, at first 0; pixel (x, y) is in column x "
            + "and row y.");
        WaveletStream w = new WaveletStream();
        for (int width = 0; width <= 9; width++) {
            for (int height = 0; height <= 9; height++) {
                int cols = width;
                int rows = height;
                if (width % 9 == 0 || height % 9 == 0) {
                    check.refuses("picture(" + width + ", " + height + ")", () -> w.picture(cols, rows));
                    continue;
                }
                w.picture(width, height);
                for (int i = 0; i < 100; i++) {
                    int x = i % 10;
                    int y = i / 10;
                    check.equal("pixel(" + x + ", " + y + ")", w.pixel(x, y), x < width && y < height ? 0 : NONE);
                }
                w.paint(width - 1, height - 1, 255);
                w.paint(width - 1, height - 1, 0);
                w.paint(width - 1, 0, 7);
                check.equal("the last column", w.pixel(width - 1, 0), 7);
                check.equal("the last row", w.pixel(0, height - 1), width == 1 && height == 1 ? 7 : 0);
            }
        }
        check.refuses("paint(0, 0, 256)", () -> w.paint(0, 0, 256));
        check.refuses("paint(0, 0, -1)", () -> w.paint(0, 0, -1));
    }

    private void numbers() {
        says("Its NUMBERS are its pixels less 128.");
        for (int v = 0; v <= 255; v++) {
            WaveletStream w = Make.drawn(1, 1, v);
            w.encode(0, 1);
            check.equal("number of " + v, w.number(0, 0, 0), v - 128);
        }
    }

    /** That a row, and a column, gives these s and then these d; and that they give it back. */
    private void splits(String numbers, String due) {
        int[] from = Make.rows(numbers)[0];
        int[] to = Make.rows(due)[0];
        int n = from.length;
        WaveletStream row = new WaveletStream();
        WaveletStream column = new WaveletStream();
        row.picture(n, 1);
        column.picture(1, n);
        for (int i = 0; i < n; i++) {
            row.paint(i, 0, from[i] + 128);
            column.paint(0, i, from[i] + 128);
        }
        row.encode(1, 1);
        column.encode(1, 1);
        int low = n - n / 2;
        for (int i = 0; i < n; i++) {
            int b = i < low ? 0 : 1;
            int k = i < low ? i : i - low;
            check.equal("row " + numbers + ", " + (b == 0 ? "s" : "d") + "(" + k + ")", row.number(b, k, 0), to[i]);
            check.equal("column " + numbers + ", " + (b == 0 ? "s" : "d") + "(" + k + ")",
                column.number(2 * b, 0, k), to[i]);
        }
        row.decode(Make.stream(row).length);
        column.decode(Make.stream(column).length);
        check.equal("row " + numbers + ": difference()", row.difference(), 0);
        check.equal("column " + numbers + ": difference()", column.difference(), 0);
    }

    private void rowsOfEveryLength() {
        says("THE WAVELET of a row x(0) .. x(n - 1), n above 1: d(k) is x(2k + 1) less half of x(2k) + x(2k + 2), k "
            + "from 0; s(k) is x(2k) and a fourth of d(k - 1) + d(k) + 2;");
        splits("-128 127", "0 255");
        splits("127 -128 127", "0 0 -255");
        splits("1 2 3 4", "1 3 0 1");
        splits("1 2 3 4 5", "1 3 5 0 0");
        splits("9 -7 30 2 -50 11", "-4 27 -32 -26 12 61");
        splits("9 -7 30 2 -50 11 0", "-4 27 -38 18 -26 12 36");
        splits("-128 127 -128 127 -128 127 -128 127", "0 0 0 0 255 255 255 255");
    }

    private void roundedDown() {
        says("halves and fourths are rounded down (to the lesser int);");
        // half of -1 is -1, of -3 is -2, of 1 is 0
        splits("-1 0 0", "0 1 1");
        splits("-3 0 0", "-2 1 2");
        splits("1 0 0", "1 0 0");
        // a fourth of 2 d + 2: of -2 is -1, of -4 is -1, of -6 is -2, of 2 is 0, of 4 is 1
        splits("0 -2", "-1 -2");
        splits("0 -3", "-1 -3");
        splits("0 -4", "-2 -4");
        splits("0 -1", "0 -1");
        splits("0 0", "0 0");
        splits("0 1", "1 1");
    }

    private void behindTheRow() {
        says("for x(n) stands x(n - 2),");
        splits("10 20", "15 10");
        splits("10 20 -5 7", "19 3 18 12");
        splits("0 0 0 0 0 0 8 0", "0 0 -1 5 0 0 -4 -8");
    }

    private void beforeTheFirst() {
        says("for d(-1) d(0),");
        splits("10 20 -5 7", "19 3 18 12");
        splits("0 9 0 0", "5 2 9 0");
    }

    private void behindTheLast() {
        says("for the d behind the last one that last one.");
        splits("10 20 -5 7 4", "19 2 8 18 8");
        splits("0 0 0 9 0", "0 2 5 0 9");
        splits("0 9 0", "5 5 9");
    }

    private void oneNumberOnly() {
        says("Of one number only, s(0) is that.");
        for (int v : new int[] {0, 1, 127, 128, 255}) {
            for (int levels = 0; levels <= 3; levels++) {
                WaveletStream w = Make.drawn(1, 1, v);
                w.encode(levels, 1);
                check.equal("s(0) of " + v, w.number(0, 0, 0), v - 128);
            }
        }
        // one row: the columns stay as they are
        splits("5 7 9", "5 9 0");
    }

    private void columnsFirst() {
        says("A LEVEL: each column is replaced by its s, then its d; then each row likewise. The upper left, with the "
            + "s of both, is LL, and is what the next level does; right of it is HL (d of rows), below it LH, and HH.");
        // 0 0 / 1 0: the columns 1 1 and 0 0, then the rows 1 0 and 1 0; rows first they were 0 0 and 1 -1
        bandsOf("0 0 / 1 0", 1, -1, 1, -1);
        bandsOf("0 1 / 0 0", 1, 1, 0, -1);
        // an upright edge is HL, a level one LH
        bandsOf("0 8 / 0 8", 4, 8, 0, 0);
        bandsOf("0 0 / 8 8", 4, 0, 8, 0);
    }

    private void bandsOf(String numbers, int... due) {
        WaveletStream w = Make.drawn(2, 2);
        int[][] rows = Make.rows(numbers);
        for (int i = 0; i < 4; i++) {
            w.paint(i % 2, i / 2, rows[i / 2][i % 2] + 128);
        }
        w.encode(1, 1);
        for (int b = 0; b < 4; b++) {
            check.equal(numbers + ": band " + b, w.number(b, 0, 0), due[b]);
        }
        w.decode(Make.stream(w).length);
        check.equal("difference()", w.difference(), 0);
    }

    private void lowGoesOn() {
        says("is LL, and is what the next level does;");
        // 8 0 0 0: s 6 -1, d -4 0; then of 6 -1: d -7, s 3; then of 3 alone 3
        WaveletStream w = Make.drawn(4, 1, 136, 128, 128, 128);
        w.encode(1, 1);
        check.equal("s(0)", w.number(0, 0, 0), 6);
        check.equal("s(1)", w.number(0, 1, 0), -1);
        w.encode(2, 1);
        check.equal("s(0) of the second level", w.number(0, 0, 0), 3);
        check.equal("d(0) of the second level", w.number(1, 0, 0), -7);
        check.equal("d(0) of the first level", w.number(4, 0, 0), -4);
        check.equal("d(1) of the first level", w.number(4, 1, 0), 0);
        w.encode(3, 1);
        check.equal("s(0) of the third level", w.number(0, 0, 0), 3);
        check.equal("no d of the third level", w.number(1, 0, 0), NONE);
        check.equal("d(0) of the second level", w.number(4, 0, 0), -7);
        check.equal("d(0) of the first level", w.number(7, 0, 0), -4);
    }

    private void order() {
        says("BANDS: 0 is LL of the last level; then for each level from the last one to the first one HL, LH, HH.");
        for (int width = 1; width <= 8; width++) {
            for (int height = 1; height <= 8; height++) {
                WaveletStream w = Make.drawn(width, height);
                for (int levels = 0; levels <= 3; levels++) {
                    w.encode(levels, 1);
                    sizes(w, width, height, levels);
                }
            }
        }
    }

    private void sizes(WaveletStream w, int width, int height, int levels) {
        String of = width + " x " + height + ", " + levels + " levels, ";
        int b = 3 * levels;
        check.equal(of + "behind the last band", w.band(b + 1, 0), NONE);
        int wide = width;
        int high = height;
        while (b > 0) {
            size(of, w, b--, wide / 2, high / 2);
            size(of, w, b--, wide - wide / 2, high / 2);
            size(of, w, b--, wide / 2, high - high / 2);
            wide -= wide / 2;
            high -= high / 2;
        }
        size(of, w, 0, wide, high);
    }

    private void size(String of, WaveletStream w, int b, int wide, int high) {
        check.equal(of + "width of band " + b, w.band(b, 0), wide);
        check.equal(of + "height of band " + b, w.band(b, 1), high);
        check.equal(of + "its last number", w.number(b, wide - 1, high - 1) == NONE ? 1 : 0, wide * high == 0 ? 1 : 0);
        check.equal(of + "none right of it", w.number(b, wide, 0), NONE);
        check.equal(of + "none below it", w.number(b, 0, high), NONE);
    }

    private void empty() {
        says("A band may be empty (its width or height 0).");
        WaveletStream w = Make.drawn(1, 1, 255);
        w.encode(3, 1);
        for (int b = 1; b <= 9; b++) {
            check.equal("width of band " + b, w.band(b, 0), b % 3 == 2 ? 1 : 0);
            check.equal("height of band " + b, w.band(b, 1), b % 3 == 1 ? 1 : 0);
            for (int what = 2; what <= 4; what++) {
                check.equal("band(" + b + ", " + what + ")", w.band(b, what), 0);
            }
            check.equal("number(" + b + ", 0, 0)", w.number(b, 0, 0), NONE);
            check.equal("codeword(" + b + ", 0)", w.codeword(b, 0), NONE);
            check.equal("least(" + b + ", 0)", w.least(b, 0), 0);
            check.equal("least(" + b + ", 1)", w.least(b, 1), NONE);
        }
        w.decode(4);
        check.equal("taken(9), cut", w.taken(9), 0);
        check.equal("packets", w.decode(Make.stream(w).length), 4);
        check.equal("taken(9)", w.taken(9), 0);
        check.equal("taken(10)", w.taken(10), NONE);
        check.equal("difference()", w.difference(), 0);
    }

    private void withoutLevels() {
        says("Without levels the numbers are band 0.");
        WaveletStream w = Make.noise(8, 7, 1);
        w.encode(0, 1);
        for (int i = 0; i < 56; i++) {
            check.equal("number " + i, w.number(0, i % 8, i / 8), w.pixel(i % 8, i / 8) - 128);
        }
        check.equal("number(0, 8, 0)", w.number(0, 8, 0), NONE);
        check.equal("number(0, 0, 7)", w.number(0, 0, 7), NONE);
        check.equal("number(1, 0, 0)", w.number(1, 0, 0), NONE);
    }
}
