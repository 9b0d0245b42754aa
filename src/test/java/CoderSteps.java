import java.util.Arrays;
import java.util.Set;
import java.util.TreeSet;

/**
 * The coder's telling and reading worked out step by step from the document's sentences alone, so that the answers
 * due are neither the program's nor the reference's: both are held against them.
 *
 * A step of telling: the context and the bit; q; A less q; whether the bit is the likely one, and what the sentence
 * does then ("none": A stays, C becomes C + q, and nothing is mended); then A, C and T, and the byte that went out.
 * A step of reading: the context and the bit read; q; A less q; whether C / 10000 is below q or not, and how A stands
 * to q ("none": A is 8000 or more, and nothing is mended); then A, C, T and the place. All hexadecimal but T and the
 * place; | stands behind each pass.
 */
final class CoderSteps extends Sentences {
    private final Set<String> ways = new TreeSet<>();

    private CoderSteps(Check check, String document) {
        super(check, document);
    }

    static void run(Check check, String document) {
        CoderSteps t = new CoderSteps(check, document);
        t.tellingOnePass();
        t.tellingAColumn();
        t.tellingLowerPlanes();
        t.tellingBehindFf();
        t.tellingACarry();
        t.everyWayOfTelling();
        t.readingOnePass();
        t.readingFf();
        t.readingAbove8f();
        t.everyWayOfReading();
    }

    private void tellingOnePass() {
        says("TELLING a bit, with A (at first 8000 in hexadecimal), C (0), T (12), and bytes (one at first, 0, that is "
            + "left out in the end): A becomes A - q.");
        // C gets ffff, which is U or more: less 8000 it is 7fff; doubled six times 03 goes out, then ff, left out
        told("LL", "1", """
            0:1    521 7adf  other A=q   a420       0  7
            9:0   5601 4e1f  likely A=q  ac02       0  6
            |
            END   ac02 ffff less  03
            """);
        // ffff is below U
        told("LL", "-1", """
            0:1    521 7adf  other A=q   a420       0  7
            9:1   5601 4e1f  other C+q   9c3e    ac02  6
            |
            END   14840 ffff stays  07
            """);
        told("LL", "1 -1", """
            0:1    521 7adf  other A=q   a420       0  7
            9:0   5601 4e1f  likely A=q  ac02       0  6
            5:1   5601 5601  other A=q   ac02       0  5
            12:1  5601 5601  other A=q   ac02       0  4
            |
            END   ac02 ffff less  00
            """);
        told("LL", "-1 -1 0", """
            0:1    521 7adf  other A=q   a420       0  7
            9:1   5601 4e1f  other C+q   9c3e    ac02  6
            5:1   5601 463d  other C+q   8c7a   20406  5
            12:0  5601 3679  likely A=q  ac02   4080c  4
            5:0   3401 7801  other A=q   d004  102030  2
            |
            END   10f034 10ffff less  08 3f
            """);
    }

    private void tellingAColumn() {
        says("A and C are doubled, T is one less, if T is 0 a byte goes OUT; again, until A is 8000 or more.");
        told("LL", "0 / 0 / 1 / 0", """
            17:1   ac1 753f  other A=q   ac10       0  8
            18:1  5601 560f  other A=q   ac02       0  7
            18:0  5601 5601  likely C+q  ac02    ac02  6
            9:0   5601 5601  likely C+q  ac02   20406  5
            3:0   5601 5601  likely C+q  ac02   4b40e  4
            |
            END   56010 4ffff stays  09
            """);
    }

    private void tellingLowerPlanes() {
        says("the state is the next one, and A is MENDED; otherwise C becomes C + q.");
        told("HL", "-3 0", """
            0:1    521 7adf  other A=q   a420       0  7
            9:1   5601 4e1f  other C+q   9c3e    ac02  6
            3:0   5601 463d  likely A=q  ac02   15804  5
            |
            3:0   3401 7801  likely C+q  f002   3180a  4
            |
            14:1  5601 9a01  other A=q   ac02   63014  3
            |
            |
            END   6dc16 6ffff less  06 7f
            """);
        told("HH", "0 -2 -2 0", """
            0:0    521 7adf  likely C+q  f5be     a42 11
            0:1    221 f39d  other A=q   8840   29080  5
            9:1   5601 323f  other C+q   c8fc   b9a04  3
            1:1   5601 72fb  other A=q   ac02  173408  2
            12:0  5601 5601  likely C+q  ac02  2f1412  1
            1:0   3401 7801  other A=q   d004   c5048  7 0b
            |
            1:0   5601 7a03  other A=q   ac02  18a090  6
            1:0   5601 5601  likely C+q  ac02  31ed22  5
            |
            15:0  5601 5601  likely C+q  ac02  648646  4
            15:0  3401 7801  likely C+q  f002  c9748e  3
            |
            |
            END   ca6490 c9ffff stays  0b c9
            """);
    }

    private void tellingBehindFf() {
        says("Now, if the last byte is ff: a new byte is C / 100000, C the rest, T is 7;");
        // in the end C is 7ffff, doubled 7ffff00: ff goes out; C is 7ff00, doubled 7ff0000: 7f behind ff
        told("LL", "0 0 / -1 1", """
            0:0    521 7adf  likely C+q  f5be     a42 11
            0:1    221 f39d  other A=q   8840   29080  5
            9:1   5601 323f  other C+q   c8fc   b9a04  3
            1:0   5601 72fb  likely C+q  e5f6  17e00a  2
            5:1   5601 8ff5  other A=q   ac02  2fc014  1
            12:1  5601 5601  other A=q   ac02   78028  8 0b
            |
            END   82c2a 7ffff stays  0b ff 7f
            """);
        // in the end C is 207fff, doubled 81fffc0: 8000000 or more, but the last byte is ff, so 81 goes out
        told("HH", "-3 -4 -3 0", """
            0:0    521 7adf  likely C+q  f5be     a42 11
            0:1    221 f39d  other A=q   8840   29080  5
            9:1   5601 323f  other C+q   c8fc   b9a04  3
            1:0   5601 72fb  likely C+q  e5f6  17e00a  2
            0:0    521 e0d5  likely none e0d5  17e52b  2
            |
            1:1   3401 acd4  other A=q   d004   794ac  8 0b
            12:0  5601 7a03  likely C+q  f406   fd55a  7
            1:1   5601 9e05  other A=q   ac02  1faab4  6
            12:0  3401 7801  likely C+q  f002  3fbd6a  5
            1:0   5601 9a01  other A=q   ac02  7f7ad4  4
            |
            15:0  5601 5601  likely C+q  ac02  ffa1aa  3
            |
            |
            1:0   5601 5601  likely C+q  ac02 1ffef56  2
            |
            15:1  3401 7801  other A=q   d004   7bd58  8 ff
            16:0  5601 7a03  likely C+q  f406  1026b2  7
            15:1  5601 9e05  other A=q   ac02  204d64  6
            |
            |
            END   20f966 20ffff less  0b ff 81
            """);
    }

    private void tellingACarry() {
        says("OUT: if the last byte is not ff, and C is 8000000 or more, 1 is added to that byte, and if it is ff "
            + "then, C loses its bit of 8000000.");
        // in the end C is 87fff, doubled 87fff00: 0b becomes 0c, and the lowest eight bits of 10f go out
        told("HH", "0 -6", """
            0:0    521 7adf  likely C+q  f5be     a42 11
            0:1    221 f39d  other A=q   8840   29080  5
            9:1   5601 323f  other C+q   c8fc   b9a04  3
            |
            1:0   5601 72fb  likely C+q  e5f6  17e00a  2
            |
            14:1  5601 8ff5  other A=q   ac02  2fc014  1
            |
            |
            1:0   3401 7801  likely C+q  f002   7e82a  8 0b
            |
            16:0  5601 9a01  likely none 9a01   83e2b  8
            |
            |
            END   8d82c 8ffff less  0c 0f
            """);
        // likewise, but fe becomes ff: C is 7fff00, of which 07 goes out
        told("HH", "-1 -3 0 / 0 -3 -3", """
            0:0    521 7adf  likely C+q  f5be     a42 11
            0:0    221 f39d  likely none f39d     c63 11
            0:1    221 f17c  other A=q   8840   318c0  5
            9:1   5601 323f  other C+q   c8fc   dbb04  3
            1:1   5601 72fb  other A=q   ac02  1b7608  2
            10:0  5601 5601  likely C+q  ac02  379812  1
            4:0   5601 5601  likely C+q  ac02   7dc26  8 0d
            4:1   3401 7801  other A=q   d004  1f7098  6
            12:0  5601 7a03  likely C+q  f406  3f8d32  5
            |
            4:1   5601 9e05  other A=q   ac02  7f1a64  4
            12:0  3401 7801  likely C+q  f002  fe9cca  3
            5:0   5601 9a01  likely none 9a01  fef2cb  3
            5:0   5601 4400  likely A=q  ac02 1fde596  2
            |
            15:1  5601 5601  other A=q   ac02 3fbcb2c  1
            15:1  3401 7801  likely C+q  f002   7fe5a  8 fe
            15:1  1801 d801  likely none d801   8165b  8
            |
            |
            END   8ee5c 8ffff less  0d ff 07
            """);
    }

    private void everyWayOfTelling() {
        says("For the likely bit: if A is below 8000: if A is below q, A becomes q, otherwise C becomes C + q;");
        every("likely none", "likely A=q", "likely C+q", "other A=q", "other C+q", "less", "stays");
    }

    private void readingOnePass() {
        says("At first the place is 0, C is the first byte * 10000, a byte comes in, C is doubled 7 times, T is "
            + "7 less, A is 8000. A becomes A - q.");
        read("07", "-1", """
            begin 8000 3ff8000 1 1
            0:1    521 7adf  below A>=q a420 7ffff000 4 1
            9:1   5601 4e1f  not A<q    9c3e 53fde000 3 1
            |
            """);
        read("03", "1", """
            begin 8000 1ff8000 1 1
            0:1    521 7adf  below A>=q a420 3ffff000 4 1
            9:0   5601 4e1f  below A<q  ac02 7fffe000 3 1
            |
            """);
        read("08 3f", "-1 -1 0", """
            begin 8000 41f8000 1 1
            0:1    521 7adf  below A>=q a420 83fff000 4 2
            9:1   5601 4e1f  not A<q    9c3e 5bfde000 3 2
            5:1   5601 463d  not A<q    8c7a  bf9c000 2 2
            12:0  5601 3679  below A<q  ac02 17f38000 1 2
            5:0   3401 7801  below A>=q d004 5fcffe00 7 2
            |
            """);
        // the first byte stands behind the last one: it is ff, and so is the next
        read("", "0 / 0", """
            begin 8000 7fff8000 1 0
            0:0    521 7adf  not A>=q   f5be f5bd0000 0 0
            0:0    221 f39d  not none   f39d f39c0000 0 0
            |
            """);
    }

    private void readingFf() {
        says("if it is ff and the next is not, the place is one on, that byte * 200 is added to C, T is 7;");
        read("ff 00", "0 0", """
            begin 8000 7f800000 0 1
            0:0    521 7adf  not A>=q   f5be f4bffe00 7 2
            0:0    221 f39d  not none   f39d f29efe00 7 2
            |
            """);
        read("0b ff 7f", "0 0 / -1 1", """
            begin 8000 5ff8000 1 1
            0:0    521 7adf  not A>=q   f5be  1bd0000 0 1
            0:1    221 f39d  below A>=q 8840 6f7f8000 1 2
            9:1   5601 323f  not A<q    c8fc 65fbfe00 7 3
            1:0   5601 72fb  not A>=q   e5f6 1ff5fc00 6 3
            5:1   5601 8ff5  below A>=q ac02 3febf800 5 3
            12:1  5601 5601  below A>=q ac02 7fd7f000 4 3
            |
            """);
        // 0b alone is read right, too: it is the least length
        read("0b", "0 0 / -1 1", """
            begin 8000 5ff8000 1 1
            0:0    521 7adf  not A>=q   f5be  1bd0000 0 1
            0:1    221 f39d  below A>=q 8840 6f7fc000 2 1
            9:1   5601 323f  not A<q    c8fc 65fb0000 0 1
            1:0   5601 72fb  not A>=q   e5f6 1ff5fe00 7 1
            5:1   5601 8ff5  below A>=q ac02 3febfc00 6 1
            12:1  5601 5601  below A>=q ac02 7fd7f800 5 1
            |
            """);
    }

    private void readingAbove8f() {
        says("if the byte at the place is ff and the next one is above 8f, C becomes C + ff00, T is 8;");
        read("0b ff 8f", "0 -1 0 0 / -1 1 0 0 / 0 0 0 0", """
            begin 8000 5ff8000 1 1
            0:0    521 7adf  not A>=q   f5be  1bd0000 0 1
            0:1    221 f39d  below A>=q 8840 6f878000 1 2
            9:1   5601 323f  not A<q    c8fc 661bfe00 7 3
            3:0   5601 72fb  not A>=q   e5f6 2035fc00 6 3
            1:1   5601 8ff5  below A>=q ac02 406bf800 5 3
            9:1   3401 7801  not A>=q   f002 18d5f000 4 3
            7:1   5601 9a01  below A>=q ac02 31abe000 3 3
            13:1  5601 5601  below A>=q ac02 6357c000 2 3
            3:0   3401 7801  not A>=q   f002 5ead8000 1 3
            6:0   5601 9a01  not none   9a01  8ac8000 1 3
            6:0   5601 4400  below A<q  ac02 11590000 0 3
            1:0   3401 7801  below A>=q d004 4567fc00 6 3
            0:0    521 cae3  not none   cae3 4046fc00 6 3
            0:0    521 c5c2  not none   c5c2 3b25fc00 6 3
            0:0    521 c0a1  not none   c0a1 3604fc00 6 3
            |
            """);
        read("0b ff 90", "0 -1 0 0 / -1 1 0 1 / 0 0 0 0", """
            begin 8000 5ff8000 1 1
            0:0    521 7adf  not A>=q   f5be  1bd0000 0 1
            0:1    221 f39d  below A>=q 8840 6f7fc000 2 1
            9:1   5601 323f  not A<q    c8fc 65fb0000 0 1
            3:0   5601 72fb  not A>=q   e5f6 1ff5fe00 7 1
            1:1   5601 8ff5  below A>=q ac02 3febfc00 6 1
            9:1   3401 7801  not A>=q   f002 17d5f800 5 1
            7:1   5601 9a01  below A>=q ac02 2fabf000 4 1
            13:1  5601 5601  below A>=q ac02 5f57e000 3 1
            3:0   3401 7801  not A>=q   f002 56adc000 2 1
            6:0   5601 9a01  not none   9a01   acc000 2 1
            6:0   5601 4400  below A<q  ac02  1598000 1 1
            1:0   3401 7801  below A>=q d004  567fe00 7 1
            0:0    521 cae3  not none   cae3   46fe00 7 1
            0:1    521 c5c2  below A>=q a420  8dfc000 2 1
            9:0   1801 8c1f  below A>=q c008 46fffe00 7 1
            3:0   1801 a807  not none   a807 2efefe00 7 1
            |
            """);
    }

    private void everyWayOfReading() {
        says("If C / 10000 is below q: the bit is the likely one if A is below q, otherwise the other one; A becomes "
            + "q. If it is not: C loses q * 10000;");
        every("below A<q", "below A>=q", "not none", "not A<q", "not A>=q");
    }

    private void every(String... due) {
        for (String way : due) {
            check.that("no step goes the way " + way, ways.contains(way));
        }
    }

    private void told(String kind, String numbers, String steps) {
        Reference.Telling telling = new Reference.Telling();
        StringBuilder told = new StringBuilder();
        for (String step : steps.split("\n")) {
            String[] words = step.trim().split("\\s+");
            if (words[0].equals("END")) {
                int[] code = Make.bytes(String.join(" ", Arrays.copyOfRange(words, 4, words.length)));
                ended(telling, kind + " " + numbers + ", " + step.trim(), words, code);
                tells(kind, numbers, told.toString().trim());
                same(kind + " " + numbers + ": codeword",
                    Make.codeword(Make.ofBand(kind, Make.rows(numbers)), Make.bandOf(kind)), code);
                return;
            }
            told.append(words[0]).append(" ");
            if (!words[0].equals("|")) {
                toldStep(telling, kind + " " + numbers + ", " + step.trim() + ": ", words);
            }
        }
        check.that(kind + " " + numbers + " has no END", false);
    }

    private void toldStep(Reference.Telling telling, String of, String[] words) {
        int context = Integer.parseInt(words[0].split(":")[0]);
        int bit = Integer.parseInt(words[0].split(":")[1]);
        int q = telling.learnt.q(context);
        check.equal(of + "q", q, hex(words[1]));
        long less = telling.a - q;
        check.equal(of + "A less q", less, hex(words[2]));
        boolean likely = bit == telling.learnt.likely[context];
        String way = likely && less >= 0x8000 ? "none" : likely == less < q ? "A=q" : "C+q";
        goes(of, words, (likely ? "likely " : "other ") + way);
        int bytes = telling.bytes.size();
        telling.bit(context, bit);
        check.equal(of + "A", telling.a, hex(words[5]));
        check.equal(of + "C", telling.c, hex(words[6]));
        check.equal(of + "T", telling.t, Integer.parseInt(words[7]));
        check.equal(of + "bytes that went out", telling.bytes.size() - bytes, words.length - 8);
        if (words.length > 8) {
            check.equal(of + "the byte", telling.bytes.get(bytes), hex(words[8]));
        }
    }

    private void ended(Reference.Telling telling, String of, String[] words, int[] code) {
        check.equal(of + ": U", telling.c + telling.a, hex(words[1]));
        check.equal(of + ": C", telling.c | 0xffff, hex(words[2]));
        check.that(of, words[3].equals(hex(words[2]) >= hex(words[1]) ? "less" : "stays"));
        ways.add(words[3]);
        same(of, Make.ints(telling.end()), code);
    }

    /** The one pass of a band of one plane, without levels, read from these bytes. */
    private void read(String code, String numbers, String steps) {
        Reference.Reading reading = new Reference.Reading(Arrays.stream(Make.bytes(code)).boxed().toList());
        for (String step : steps.split("\n")) {
            String[] words = step.trim().split("\\s+");
            if (words[0].equals("begin")) {
                stands(reading, code + ", " + step.trim(), words, 1);
            } else if (!words[0].equals("|")) {
                readStep(reading, code + ", " + step.trim(), words);
            }
        }
        reads(code, 1, 1, numbers);
    }

    private void readStep(Reference.Reading reading, String of, String[] words) {
        int context = Integer.parseInt(words[0].split(":")[0]);
        int q = reading.learnt.q(context);
        check.equal(of + ": q", q, hex(words[1]));
        int less = reading.a - q;
        check.equal(of + ": A less q", less, hex(words[2]));
        boolean below = reading.c.shiftRight(16).longValueExact() < q;
        String way = !below && less >= 0x8000 ? "none" : less < q ? "A<q" : "A>=q";
        goes(of + ": ", words, (below ? "below " : "not ") + way);
        check.equal(of + ": the bit", reading.bit(context, 0), Integer.parseInt(words[0].split(":")[1]));
        stands(reading, of, words, 5);
    }

    private void stands(Reference.Reading reading, String of, String[] words, int from) {
        check.equal(of + ": A", reading.a, hex(words[from]));
        check.equal(of + ": C", reading.c.longValueExact(), hex(words[from + 1]));
        check.equal(of + ": T", reading.t, Integer.parseInt(words[from + 2]));
        check.equal(of + ": the place", reading.place, Integer.parseInt(words[from + 3]));
    }

    private void goes(String of, String[] words, String way) {
        check.that(of + "goes the way " + way, way.equals(words[3] + " " + words[4]));
        ways.add(way);
    }

    private static long hex(String text) {
        return Long.parseLong(text, 16);
    }
}
