import java.util.ArrayList;
import java.util.Arrays;
import java.util.List;

/** What the tests by sentence share: each names the document's words that it tests. */
abstract class Sentences {
    static final int NONE = WaveletStream.NONE;

    final Check check;
    private final String document;

    Sentences(Check check, String document) {
        this.check = check;
        this.document = document.replaceAll("\\s+", " ");
    }

    /** The checks behind this are of these words, which must stand in the document. */
    final void says(String words) {
        check.subject("'" + words + "'");
        check.that("does not stand in the document", document.contains(words));
    }

    final void same(String what, int[] got, int... due) {
        check.that(what + " answered " + hex(got) + ", due is " + hex(due), Arrays.equals(got, due));
    }

    private static String hex(int[] values) {
        StringBuilder s = new StringBuilder("[");
        for (int v : values) {
            s.append(s.length() == 1 ? "" : " ").append(v < 0 ? "-" : "").append(Integer.toHexString(Math.abs(v)));
        }
        return s.append("]").toString();
    }

    /**
     * That a band with these numbers is told like this: a context and a bit for each bit told, and a | behind
     * each pass. The list is compared with what the reference tells, the codeword with that of this list.
     */
    final void tells(String kind, String numbers, String told) {
        int[][] rows = Make.rows(numbers);
        int b = Make.bandOf(kind);
        WaveletStream w = Make.ofBand(kind, rows);
        for (int y = 0; y < rows.length; y++) {
            for (int x = 0; x < rows[0].length; x++) {
                check.equal(kind + " " + numbers + ": number(" + x + ", " + y + ")", w.number(b, x, y), rows[y][x]);
            }
        }
        check.that(kind + " " + numbers + ": the reference tells " + walked(kind, rows),
            walked(kind, rows).equals(told));
        check.equal(kind + " " + numbers + ": passes", w.band(b, 3), told.replaceAll("[^|]", "").length());
        same(kind + " " + numbers + ": codeword", Make.codeword(w, b), codewordOf(told));
        w.decode(Make.stream(w).length);
        check.equal(kind + " " + numbers + ": difference()", w.difference(), 0);
    }

    /** As above, and with this codeword. */
    final void tells(String kind, String numbers, String told, String codeword) {
        tells(kind, numbers, told);
        same(kind + " " + numbers + ": codeword", Make.codeword(Make.ofBand(kind, Make.rows(numbers)),
            Make.bandOf(kind)), Make.bytes(codeword));
    }

    /** That a band with these numbers has this codeword, and is read right from it. */
    final void codes(String kind, String numbers, String codeword) {
        WaveletStream w = Make.ofBand(kind, Make.rows(numbers));
        same(kind + " " + numbers + ": codeword", Make.codeword(w, Make.bandOf(kind)), Make.bytes(codeword));
        w.decode(Make.stream(w).length);
        check.equal(kind + " " + numbers + ": difference()", w.difference(), 0);
    }

    private static int[] codewordOf(String told) {
        Reference.Telling telling = new Reference.Telling();
        for (String word : told.split("[ |]+")) {
            String[] parts = word.split(":");
            telling.bit(Integer.parseInt(parts[0]), Integer.parseInt(parts[1]));
        }
        return Make.ints(telling.end());
    }

    private static String walked(String kind, int[][] rows) {
        Reference.Band band = new Reference.Band(kind, rows);
        for (int[] row : rows) {
            for (int v : row) {
                while (1 << band.planes <= Math.abs(v)) {
                    band.planes++;
                }
            }
        }
        List<String> words = new ArrayList<>();
        new Reference.Walk(band, (context, bit) -> {
            words.add(context + ":" + bit);
            return bit;
        }).passes(band.planes, 3 * band.planes - 2, k -> {
            words.add("|");
            return k;
        });
        return String.join(" ", words);
    }

    /**
     * That so many passes of a band without levels, read from these bytes, give these numbers, as far as pixels can
     * show them: those below -128 and above 127 are told as these.
     */
    final void reads(String code, int planes, int passes, String numbers) {
        int[][] rows = Make.rows(numbers);
        int[] due = Make.join(rows);
        int[] stream = Make.oneBand(rows[0].length, rows.length, planes, passes, Make.bytes(code));
        same("numbers of " + code, numbersOf(stream), due);
        Reference reference = new Reference();
        for (int b : stream) {
            reference.stream.add(b);
        }
        reference.decode(stream.length);
        for (int i = 0; i < due.length; i++) {
            check.equal("reference, number " + i + " of " + code,
                reference.decoded(i % rows[0].length, i / rows[0].length) - 128, due[i]);
        }
    }

    /** The pixels, less 128, of a stream that is poked and decoded. */
    final int[] numbersOf(int... stream) {
        WaveletStream w = Make.poked(stream);
        check.equal("packets of " + hex(stream), w.decode(stream.length), 1);
        int[] pixels = Make.decoded(w, stream[0], stream[1]);
        for (int i = 0; i < pixels.length; i++) {
            pixels[i] -= 128;
        }
        return pixels;
    }

    final void malformed(String what, int n, int... stream) {
        check.refuses(what + ", decode(" + n + ")", () -> Make.poked(stream).decode(n));
    }

    final void packets(String what, int n, int due, int... stream) {
        int got;
        try {
            got = Make.poked(stream).decode(n);
        } catch (IllegalArgumentException e) {
            got = NONE;
        }
        check.equal(what + ", decode(" + n + ")", got, due);
    }
}
