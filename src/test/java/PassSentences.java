/** The document's "Terms", sentence by sentence: stripes, contexts, passes and signs. */
final class PassSentences extends Sentences {
    private PassSentences(Check check, String document) {
        super(check, document);
    }

    static void run(Check check, String document) {
        PassSentences t = new PassSentences(check, document);
        t.planes();
        t.passes();
        t.stripes();
        t.awake();
        t.outsideOfTheBand();
        t.besideAndAcross();
        t.rowContexts();
        t.cornerContextsOfRows();
        t.turnedContexts();
        t.manyCorners();
        t.twoCorners();
        t.fewCorners();
        t.kindsOnEveryLevel();
        t.spreading();
        t.refining();
        t.refiningAgain();
        t.cleanupOfFour();
        t.cleanupOfTheFirst();
        t.cleanupOfOthers();
        t.sign();
        t.signTurned();
        t.signCut();
    }

    private void planes() {
        says("as many as the greatest size (without sign) of a number in it has bits, p;");
        int[][] due = {{0, 0}, {1, 1}, {-1, 1}, {2, 2}, {3, 2}, {-3, 2}, {4, 3}, {-4, 3}, {7, 3}, {-8, 4},
            {63, 6}, {64, 7}, {127, 7}, {-127, 7}, {-128, 8}};
        for (int[] d : due) {
            WaveletStream w = Make.ofBand("LL", new int[][] {{0, d[0]}, {d[0], 0}});
            check.equal("planes of " + d[0], w.band(0, 2), d[1]);
        }
        WaveletStream w = Make.ofBand("LL", Make.rows("1 -9 / 3 7"));
        check.equal("planes of 1, -9, 3, 7", w.band(0, 2), 4);
        // The greatest that a picture can give: HH of 255, 0 in turns is 510 in each place.
        w = Make.drawn(2, 2, 255, 0, 0, 255);
        w.encode(1, 1);
        check.equal("HH", w.number(3, 0, 0), 510);
        check.equal("planes of 510", w.band(3, 2), 9);
    }

    private void passes() {
        says("plane p - 1 is the highest. Its PASSES: for the highest plane a CLEANUP; for each lower one SPREADING, "
            + "REFINING, CLEANUP: 3 p - 2 in all, none if p is 0.");
        tells("LL", "1", "0:1 9:0 |");
        tells("LL", "-2", "0:1 9:1 | | 14:0 | |");
        tells("LL", "5 0", "0:1 9:0 5:0 | 5:0 | 14:0 | | 5:0 | 16:1 | |");
        int[] values = {128, 129, 130, 132, 136, 144, 160, 192, 0};
        for (int p = 0; p < values.length; p++) {
            WaveletStream w = Make.drawn(1, 1, values[p]);
            w.encode(0, 1);
            check.equal("planes", w.band(0, 2), p);
            check.equal("passes of " + p + " planes", w.band(0, 3), p == 0 ? 0 : 3 * p - 2);
            int all = p == 0 ? 0 : 3 * p - 2;
            check.that("least length of all passes", p == 0 ? w.least(0, all) == 0 : w.least(0, all) > 0);
            check.equal("and of one more", w.least(0, all + 1), NONE);
        }
    }

    private void stripes() {
        says("A pass goes over STRIPES of four rows (the last one may have fewer), in each over the columns, in each "
            + "from the top.");
        // four rows and one: the whole first column of four, then the second one, then the fifth row
        tells("LL", "1 0 / 0 -1 / 0 0 / 0 1 / 1 1",
            "17:1 18:0 18:0 9:0 3:0 0:0 0:0 5:0 1:1 9:1 3:0 0:1 9:0 1:1 9:0 7:1 13:0 |");
        // three rows alone are a stripe, and so are seven's last three
        tells("LL", "1 0 / 0 0 / 0 1", "0:1 9:0 3:0 0:0 5:0 1:0 0:1 9:0 |");
        tells("LL", "0 / 0 / 0 / 0 / 0 / 0 / 1", "17:0 0:0 0:0 0:1 9:0 |");
        tells("LL", "0 / 0 / 0 / 0 / 0 / 0 / 0 / 1", "17:0 17:1 18:1 18:1 9:0 |");
        // spreading and refining in the same order: in the second stripe the first column before the second
        tells("LL", "-2 0 / 2 0 / 0 0 / 0 3 / 0 2",
            "17:1 18:0 18:0 9:1 3:1 10:1 3:0 0:0 6:0 6:0 1:0 0:1 9:0 1:0 3:1 10:0 "
            + "| 3:0 6:0 6:0 6:0 3:0 6:0 | 15:0 15:0 15:1 15:0 | |");
    }

    private void awake() {
        says("A number is AWAKE when a bit 1 of it was told.");
        // the 1 sleeps through the first plane: it is told again, and the one beside it has no neighbour yet
        tells("LL", "1 0 2", "0:0 0:0 0:1 9:0 | 5:0 | 14:0 | 0:1 9:0 |");
        // woken in the cleanup of this plane: the next number has context 5 at once
        tells("LL", "1 1 0", "0:1 9:0 5:1 12:0 5:0 |");
    }

    private void outsideOfTheBand() {
        says("Outside of the band none is.");
        // every band's one number is alone, though those of the other bands lie beside it
        WaveletStream w = Make.ofBands(Make.rows("-1"), Make.rows("1"), Make.rows("1"), Make.rows("-1"));
        int[] codes = {7, 3, 3, 7};
        for (int b = 0; b < 4; b++) {
            same("codeword of band " + b, Make.codeword(w, b), codes[b]);
        }
        // nor is any that was awake in an earlier, greater picture
        WaveletStream v = Make.noise(8, 8, 1);
        v.encode(0, 1);
        v.picture(2, 2);
        v.encode(0, 1);
        int[] due = {0, 0, 0, 0};
        v.decode(Make.stream(v).length);
        same("decoded", Make.decoded(v, 2, 2), due);
        WaveletStream fresh = Make.drawn(2, 2, 0, 0, 0, 0);
        fresh.encode(0, 1);
        same("codeword", Make.codeword(v, 0), Make.codeword(fresh, 0));
        // the ends of rows and columns: none beyond them, and none at the other end
        tells("LL", "0 1 / 0 0 / 0 1", "0:0 0:0 0:0 0:1 9:0 3:0 0:1 9:0 |");
        tells("LH", "0 0 0 1 / 1 0 0 0", "0:0 0:1 9:0 1:0 5:0 0:0 0:0 0:1 9:0 3:0 |");
    }

    private void besideAndAcross() {
        says("For a number, h, v and e are how many are awake of the two beside it in its row, in its column, and of "
            + "the four across corners.");
        // one that is awake, in each place round the number in the middle
        tells("LL", "2 0 0 / 0 0 0 / 0 0 0", "0:1 9:0 3:0 0:0 5:0 1:0 0:0 0:0 0:0 0:0 "
            + "| 3:0 5:0 1:0 | 14:0 | 0:0 0:0 0:0 0:0 0:0 |");
        tells("LL", "0 0 0 / 2 0 0 / 0 0 0", "0:0 0:1 9:0 3:0 1:0 5:0 1:0 0:0 0:0 0:0 "
            + "| 3:0 3:0 1:0 5:0 1:0 | 14:0 | 0:0 0:0 0:0 |");
        tells("LL", "0 0 0 / 0 0 0 / 2 0 0", "0:0 0:0 0:1 9:0 0:0 1:0 5:0 0:0 0:0 0:0 "
            + "| 3:0 1:0 5:0 | 14:0 | 0:0 0:0 0:0 0:0 0:0 |");
        tells("LL", "0 2 0 / 0 0 0 / 0 0 0", "0:0 0:0 0:0 0:1 9:0 3:0 0:0 5:0 1:0 0:0 "
            + "| 5:0 1:0 3:0 5:0 1:0 | 14:0 | 0:0 0:0 0:0 |");
        tells("LL", "0 0 0 / 0 0 0 / 0 2 0", "0:0 0:0 0:0 0:0 0:0 0:1 9:0 0:0 1:0 5:0 "
            + "| 1:0 5:0 3:0 1:0 5:0 | 14:0 | 0:0 0:0 0:0 |");
        tells("LL", "0 0 2 / 0 0 0 / 0 0 0", "0:0 0:0 0:0 0:0 0:0 0:0 0:1 9:0 3:0 0:0 "
            + "| 5:0 1:0 3:0 | 14:0 | 0:0 0:0 0:0 0:0 0:0 |");
        tells("LL", "0 0 0 / 0 0 2 / 0 0 0", "0:0 0:0 0:0 0:0 0:0 0:0 0:0 0:1 9:0 3:0 "
            + "| 1:0 5:0 1:0 3:0 3:0 | 14:0 | 0:0 0:0 0:0 |");
        tells("LL", "0 0 0 / 0 0 0 / 0 0 2", "0:0 0:0 0:0 0:0 0:0 0:0 0:0 0:0 0:1 9:0 "
            + "| 1:0 5:0 3:0 | 14:0 | 0:0 0:0 0:0 0:0 0:0 |");
    }

    private void rowContexts() {
        says("ITS CONTEXT, of LL and LH: 8 if h is 2; with h 1: 7 if v is above 0, otherwise 6 if e is above 0, "
            + "otherwise 5; with h 0: 4 if v is 2, 3 if v is 1,");
        for (String kind : new String[] {"LL", "LH"}) {
            tells(kind, "-2 0 -2", "0:1 9:1 5:0 0:1 9:1 | 8:0 | 14:0 14:0 | |");
            tells(kind, "-1 0 -2 / 0 2 0",
                "0:0 0:0 0:0 0:1 9:0 1:1 9:1 7:0 | 1:1 9:1 7:0 8:0 7:0 | 15:0 15:0 | |");
            // h 1 and v 1; h 1 and v 2; h 1 and e 1; h 1 alone
            tells(kind, "-1 -1 / -1 0", "0:1 9:1 3:1 10:0 6:1 12:0 7:0 |");
            tells(kind, "0 2 / 2 0 / 0 2",
                "0:0 0:1 9:0 3:0 1:1 9:0 7:0 1:1 9:0 | 7:0 7:0 7:0 | 15:0 15:0 15:0 | |");
            tells(kind, "1 0 / -1 0", "0:1 9:0 3:1 10:1 6:0 6:0 |");
            tells(kind, "1 0 / 0 0", "0:1 9:0 3:0 5:0 1:0 |");
            // h 0: v 2, v 1
            tells(kind, "-2 0 / 0 0 / -2 0",
                "0:1 9:1 3:0 0:1 9:1 5:0 2:0 5:0 | 4:0 5:0 2:0 5:0 | 14:0 14:0 | |");
        }
    }

    private void cornerContextsOfRows() {
        says("otherwise 2, 1, 0 for e 2 and more, 1, 0.");
        for (String kind : new String[] {"LL", "LH"}) {
            tells(kind, "-1 0 / 0 0 / -1 0", "0:1 9:1 3:0 0:1 9:1 5:0 2:0 5:0 |");
            tells(kind, "2 0 2 / 0 0 0 / 2 0 0", "0:1 9:0 3:0 0:1 9:0 5:0 2:0 5:0 0:1 9:0 3:0 0:0 "
                + "| 4:0 8:0 2:0 5:0 3:0 | 14:0 14:0 14:0 | 0:0 |");
            tells(kind, "2 0 2 / 0 0 0 / 2 0 2", "0:1 9:0 3:0 0:1 9:0 5:0 2:0 5:0 0:1 9:0 3:0 0:1 9:0 "
                + "| 4:0 8:0 2:0 8:0 4:0 | 14:0 14:0 14:0 14:0 | |");
        }
        tells("LL", "0 0 / -1 0 / 0 0 / 1 0", "17:1 18:0 18:1 9:1 3:0 0:1 9:0 1:0 5:0 2:0 5:0 |");
        // three corners in a band where 3 is told, too, and where v is 1
        tells("LL", "0 0 0 / 0 0 0 / 0 0 0 / 1 0 -1 / 0 0 0 / 1 0 0",
            "17:1 18:1 18:1 9:0 0:0 0:0 1:0 5:0 17:1 18:1 18:1 9:1 3:0 0:1 9:0 2:0 5:0 3:0 0:0 |");
    }

    private void turnedContexts() {
        says("Of HL: the same with h and v changed.");
        tells("HL", "-2 0 / 0 0 / -2 0",
            "0:1 9:1 5:0 0:1 9:1 3:0 2:0 3:0 | 8:0 3:0 2:0 3:0 | 14:0 14:0 | |");
        tells("HL", "-1 0 / 0 2 / -2 0",
            "0:0 0:0 0:1 9:1 0:0 1:1 9:0 7:0 | 1:1 9:1 8:0 7:0 7:0 | 15:0 15:0 | |");
        tells("HL", "-1 -1 / -1 0", "0:1 9:1 5:1 10:0 3:1 12:0 7:0 |");
        tells("HL", "1 -1 / 0 0", "0:1 9:0 5:0 3:1 12:1 6:0 |");
        tells("HL", "-2 0 -2 / 0 0 0",
            "0:1 9:1 5:0 3:0 1:0 0:1 9:1 5:0 | 5:0 4:0 2:0 5:0 | 14:0 14:0 | |");
        tells("HL", "-1 0 -1 / 0 0 0", "0:1 9:1 5:0 3:0 1:0 0:1 9:1 5:0 |");
        tells("HL", "2 0 2 / 0 0 0 / 2 0 0", "0:1 9:0 5:0 0:1 9:0 3:0 2:0 3:0 0:1 9:0 5:0 0:0 "
            + "| 8:0 4:0 2:0 3:0 5:0 | 14:0 14:0 14:0 | 0:0 |");
        tells("HL", "2 0 2 / 0 0 0 / 2 0 2", "0:1 9:0 5:0 0:1 9:0 3:0 2:0 3:0 0:1 9:0 5:0 0:1 9:0 "
            + "| 8:0 4:0 2:0 4:0 8:0 | 14:0 14:0 14:0 14:0 | |");
    }

    private void manyCorners() {
        says("Of HH, with t = h + v: 8 if e is 3 or 4;");
        tells("HH", "0 0 -2 / 0 0 0 / 2 0 -2", "0:0 0:0 0:1 9:0 0:0 3:0 1:0 0:1 9:1 1:0 0:1 9:1 "
            + "| 1:0 1:0 8:0 2:0 2:0 | 14:0 14:0 14:0 | 0:0 |");
        tells("HH", "2 0 2 / 0 0 0 / 2 0 2", "0:1 9:0 1:0 0:1 9:0 1:0 6:0 1:0 0:1 9:0 1:0 0:1 9:0 "
            + "| 2:0 2:0 8:0 2:0 2:0 | 14:0 14:0 14:0 14:0 | |");
        tells("HH", "-2 0 2 / -1 0 0 / -1 2 -3",
            "0:1 9:1 1:0 0:0 1:0 3:0 0:1 9:0 0:1 9:0 4:0 1:1 12:1 "
            + "| 4:1 10:0 2:1 11:1 5:0 8:0 5:0 | 15:0 15:0 14:0 15:1 | |");
        tells("HH", "-1 -3 3 / 0 0 0 / -3 -3 0",
            "0:0 0:0 0:1 9:1 0:1 9:1 4:0 1:1 12:0 1:1 12:1 7:0 1:0 "
            + "| 1:1 12:0 7:0 8:0 7:0 1:0 | 15:1 15:1 15:1 15:1 | |");
    }

    private void twoCorners() {
        says("with e 2: 7 if t is above 0, otherwise 6;");
        tells("HH", "-1 -1 / 1 0 / -1 0 / 1 0",
            "17:1 18:0 18:0 9:1 1:1 10:1 1:1 10:1 1:1 10:1 4:1 12:0 7:0 7:0 4:0 |");
        tells("HH", "-1 -1 0 / -1 0 0 / -1 1 0",
            "0:1 9:1 1:1 10:0 1:1 10:0 4:1 12:0 7:0 4:1 12:1 1:0 6:0 1:0 |");
        tells("HH", "1 -1 0 / 0 0 0 / -1 -1 -1",
            "0:1 9:0 1:0 0:1 9:1 1:1 12:1 7:0 1:1 12:0 1:0 6:0 1:1 12:0 |");
        tells("HH", "0 1 0 / -1 0 0 / -1 1 0",
            "0:0 0:1 9:1 1:1 10:0 3:1 9:0 5:0 4:1 12:1 1:0 6:0 1:0 |");
    }

    private void fewCorners() {
        says("with e 1: 5, 4, 3 for t 2 and more, 1, 0; with e 0: 2, 1, 0 likewise.");
        tells("HH", "-1 -1 / -1 0", "0:1 9:1 1:1 10:0 4:1 12:0 5:0 |");
        tells("HH", "0 -1 / -1 0", "0:0 0:1 9:1 3:1 9:1 2:0 |");
        tells("HH", "1 0 / 0 0", "0:1 9:0 1:0 1:0 3:0 |");
        tells("HH", "-1 -1 / 0 0", "0:1 9:1 1:0 1:1 12:0 4:0 |");
        tells("HH", "-3 0", "0:1 9:1 1:0 | 1:0 | 14:1 | |");
        tells("HH", "2 0 2", "0:1 9:0 1:0 0:1 9:0 | 2:0 | 14:0 14:0 | |");
        // t 2, 3 and 4
        tells("HH", "-1 0 -2 / 0 -2 0",
            "0:0 0:0 0:0 0:1 9:1 3:1 9:1 2:0 | 3:1 9:1 2:0 2:0 2:0 | 15:0 15:0 | |");
        tells("HH", "0 2 0 / 2 0 2 / 0 2 0", "0:0 0:1 9:0 1:0 3:1 9:0 2:0 3:1 9:0 1:0 6:1 9:0 2:0 "
            + "| 2:0 2:0 2:0 2:0 2:0 | 15:0 15:0 15:0 15:0 | |");
        tells("HH", "0 2 0 / 2 0 0 / 0 2 0", "0:0 0:1 9:0 1:0 3:1 9:0 2:0 3:1 9:0 1:0 6:0 1:0 "
            + "| 2:0 2:0 2:0 1:0 6:0 1:0 | 15:0 15:0 15:0 | |");
    }

    private void kindsOnEveryLevel() {
        says("ITS CONTEXT, of LL and LH:");
        String[] kinds = {"HL", "LH", "HH"};
        for (int levels = 1; levels <= 3; levels++) {
            for (int b = 1; b <= 3 * levels; b++) {
                int side = 8 >> levels - (b - 1) / 3;
                int[][] rows = Make.rows("1");
                if (side > 1) {
                    rows = Make.rows("1 -1 / 0 -1");
                }
                if (side > 2) {
                    rows = Make.rows("2 0 0 0 / 0 0 -2 0 / 0 1 0 0 / 3 0 0 1");
                }
                WaveletStream w = Make.deep(levels, b, rows);
                check.equal("number(" + b + ", 0, 0)", w.number(b, 0, 0), rows[0][0]);
                Reference.Band due = new Reference.Band(kinds[(b - 1) % 3], rows);
                Reference.code(due);
                same("codeword of band " + b + " of " + levels + " levels", Make.codeword(w, b),
                    Make.ints(due.codeword));
                w.decode(Make.stream(w).length);
                check.equal("difference()", w.difference(), 0);
            }
        }
        // that the three kinds of 2 x 2 and of 4 x 4 differ at all
        tells("HL", "1 -1 / 0 -1", "0:1 9:0 5:0 3:1 12:1 6:1 10:0 |", "02");
        tells("LH", "1 -1 / 0 -1", "0:1 9:0 3:0 5:1 12:1 3:1 10:0 |", "02 df");
        tells("HH", "1 -1 / 0 -1", "0:1 9:0 1:0 1:1 12:1 4:1 10:0 |", "02 cf");
        codes("HL", "2 0 0 0 / 0 0 -2 0 / 0 1 0 0 / 3 0 0 1", "14 3a 16 86 ec");
        codes("LH", "2 0 0 0 / 0 0 -2 0 / 0 1 0 0 / 3 0 0 1", "14 3a 16 86 1c");
        codes("HH", "2 0 0 0 / 0 0 -2 0 / 0 1 0 0 / 3 0 0 1", "14 3b 72 76 29");
    }

    private void spreading() {
        says("SPREADING tells the bit (in this plane) of each number that is not awake and whose context is above 0, "
            + "in that context; if it is 1, its SIGN.");
        // context 1 is above 0, context 0 is not: that one waits for the cleanup
        tells("HH", "-3 0", "0:1 9:1 1:0 | 1:0 | 14:1 | |");
        tells("LL", "3 0 0", "0:1 9:0 5:0 0:0 | 5:0 | 14:1 | 0:0 |");
        tells("LL", "-1 -2", "0:0 0:1 9:1 | 5:1 12:0 | 15:0 | |");
        // woken in spreading: the next one has a context above 0 at once, and is told in spreading, too
        tells("LL", "2 1 1", "0:1 9:0 5:0 0:0 | 5:1 12:0 5:1 12:0 | 15:0 | |");
        // but not the one before it
        tells("LL", "1 1 2", "0:0 0:0 0:1 9:0 | 5:1 12:0 | 15:0 | 5:1 12:0 |");
    }

    private void refining() {
        says("REFINING tells the bit of each that is awake but was not woken in this plane's spreading: in context 16, "
            + "if it was refined before; otherwise in 15 if h + v + e is above 0, in 14 if not.");
        tells("LL", "-1 -3", "0:0 0:1 9:1 | 5:1 12:0 | 15:1 | |");
        tells("LL", "-2", "0:1 9:1 | | 14:0 | |");
        // h alone, v alone, e alone; and two side by side in the row, of which neither is beside the other
        tells("LL", "-2 -2", "0:1 9:1 5:1 12:0 | | 15:0 15:0 | |");
        tells("LL", "-2 / -2", "0:1 9:1 3:1 10:0 | | 15:0 15:0 | |");
        tells("LL", "0 -2 / -3 0", "0:0 0:1 9:1 1:1 9:1 7:0 | 7:0 7:0 | 15:1 15:0 | |");
        tells("LH", "-1 -2 0 -2", "0:0 0:1 9:1 5:0 0:1 9:1 | 5:1 12:0 8:0 | 15:0 14:0 | |");
        tells("HH", "-1 -2 / -2 0", "0:0 0:1 9:1 3:1 9:1 2:0 | 2:1 13:0 5:0 | 15:0 15:0 | |");
        tells("HH", "-1 -2 / 0 -2", "0:0 0:0 0:1 9:1 1:1 10:0 | 4:1 12:0 5:0 | 15:0 15:0 | |");
        // 14 is no context of a sign: 13 is
        tells("LL", "-1 -1 / 0 -6", "0:0 0:0 0:0 0:1 9:1 | 1:0 5:0 3:0 | 14:1 | | 1:1 9:1 7:0 7:1 13:0 | 16:0 | |",
            "10 5f 3f");
        // woken in the cleanup of the plane before: refined in this one
        tells("LL", "4 0 2", "0:1 9:0 5:0 0:0 | 5:0 | 14:0 | 0:1 9:0 | 8:0 | 16:0 14:0 | |");
    }

    private void refiningAgain() {
        says("in context 16, if it was refined before;");
        tells("LL", "-6", "0:1 9:1 | | 14:1 | | | 16:0 | |");
        tells("LL", "13", "0:1 9:0 | | 14:1 | | | 16:0 | | | 16:1 | |");
        tells("HL", "-2 -5", "0:0 0:1 9:1 | 3:1 12:0 | 15:0 | | | 15:0 16:1 | |");
        // not before in an earlier encoding of the same object
        WaveletStream w = Make.drawn(1, 1, 122);
        w.encode(0, 1);
        w.encode(0, 1);
        same("codeword of the second encoding", Make.codeword(w, 0), 8);
    }

    private void cleanupOfFour() {
        says("CLEANUP: where a stripe has four rows, and in a column of it all four are not awake, were not told in "
            + "this plane, and have context 0: whether one of them has a bit 1, in context 17;");
        tells("LL", "0 / 0 / 0 / 0 / -1", "17:0 0:1 9:1 |", "19");
        tells("LL", "0 / 0 / 1", "0:0 0:0 0:1 9:0 |");
        tells("LL", "0 0 / 0 0 / 0 0 / 0 1", "17:0 17:1 18:1 18:1 9:0 |");
        // one of the four has a context above 0: the first, the second, the third, the fourth
        tells("LL", "0 / 0 / 0 / 1 / 0 / 0 / 0 / 0", "17:1 18:1 18:1 9:0 3:0 0:0 0:0 0:0 |");
        tells("HH", "-1 0 / 0 0 / 0 0 / 0 0", "17:1 18:0 18:0 9:1 1:0 0:0 0:0 1:0 3:0 0:0 0:0 |");
        tells("LL", "0 0 / 0 0 / -1 0 / 0 0", "17:1 18:1 18:0 9:1 3:0 0:0 1:0 5:0 1:0 |");
        tells("LL", "0 0 / 0 0 / 0 0 / -1 0", "17:1 18:1 18:1 9:1 0:0 0:0 1:0 5:0 |");
        // one is awake, one was told in this plane's spreading
        tells("LL", "0 / 2 / 0 / 0", "17:1 18:0 18:1 9:0 3:0 0:0 | 3:0 3:0 | 14:0 | 0:0 |");
        tells("LL", "0 0 / 0 0 / 0 0 / 3 0",
            "17:1 18:1 18:1 9:0 0:0 0:0 1:0 5:0 | 3:0 1:0 5:0 | 14:1 | 0:0 0:0 0:0 0:0 |");
        // in a lower plane, too, and in the second stripe
        tells("LL", "2 0 1 / 0 0 0 / 0 0 0 / 0 0 0",
            "17:1 18:0 18:0 9:0 3:0 0:0 0:0 5:0 1:0 0:0 0:0 17:0 "
            + "| 3:0 5:0 1:0 | 14:0 | 0:0 0:0 0:0 0:0 17:1 18:0 18:0 9:0 3:0 0:0 0:0 |");
    }

    private void cleanupOfTheFirst() {
        says("if so, which is the first, 0 .. 3, by two bits, the higher first, in context 18, and its sign; then on "
            + "with those below it.");
        tells("LH", "-1 / 0 / 0 / 0", "17:1 18:0 18:0 9:1 3:0 0:0 0:0 |");
        tells("LH", "0 / -1 / 0 / 0", "17:1 18:0 18:1 9:1 3:0 0:0 |");
        tells("LH", "0 / 0 / 1 / 0", "17:1 18:1 18:0 9:0 3:0 |");
        tells("LH", "0 / 0 / 0 / 1", "17:1 18:1 18:1 9:0 |");
        // the first of several, and the others behind it
        tells("LH", "0 / 1 / -1 / 1", "17:1 18:0 18:1 9:0 3:1 10:1 3:1 10:1 |");
        tells("LH", "1 / 0 / 0 / -1", "17:1 18:0 18:0 9:0 3:0 0:0 0:1 9:1 |");
    }

    private void cleanupOfOthers() {
        says("All others that are not awake, and were not told in this plane: their bit, in their context, and if it "
            + "is 1 the sign.");
        tells("LL", "2 0 0 1", "0:1 9:0 5:0 0:0 0:0 | 5:0 | 14:0 | 0:0 0:1 9:0 |");
        tells("LL", "0 -3", "0:0 0:1 9:1 | 5:0 | 14:1 | |", "0b");
        // told in the plane before this one: told again, as it is asleep; also one that spreading told
        tells("HL", "-3 0", "0:1 9:1 3:0 | 3:0 | 14:1 | |", "06 7f");
        tells("LL", "4 0 0 1", "0:1 9:0 5:0 0:0 0:0 | 5:0 | 14:0 | 0:0 0:0 | 5:0 | 16:0 | 0:0 0:1 9:0 |");
    }

    private void sign() {
        says("THE SIGN (1 for below 0): a is what the two beside it in its row give together, 1 for each that is awake "
            + "and above 0, -1 for one below 0, b those in its column;");
        says("The context is 9 + 3 a + b (9, 10, 11, 12, 13 for (0, 0), (0, 1), (1, -1), (1, 0), (1, 1)).");
        tells("LL", "1", "0:1 9:0 |", "03");
        tells("LL", "-1", "0:1 9:1 |", "07");
        // (0, 1), (1, 0), (1, 1), (1, -1): of each a sign told 0 and one told 1
        tells("LL", "1 / 1", "0:1 9:0 3:1 10:0 |");
        tells("LL", "1 / -1", "0:1 9:0 3:1 10:1 |");
        tells("LL", "1 1", "0:1 9:0 5:1 12:0 |");
        tells("LL", "1 -1", "0:1 9:0 5:1 12:1 |");
        tells("LL", "0 1 / 1 1", "0:0 0:1 9:0 1:1 9:0 7:1 13:0 |");
        tells("LL", "0 1 / 1 -1", "0:0 0:1 9:0 1:1 9:0 7:1 13:1 |");
        tells("LL", "0 -1 / 1 1", "0:0 0:1 9:0 1:1 9:1 7:1 11:0 |");
        tells("LL", "0 -1 / 1 -1", "0:0 0:1 9:0 1:1 9:1 7:1 11:1 |");
        // those that sleep give nothing, whatever they are
        tells("LL", "2 -1 2", "0:1 9:0 5:0 0:1 9:0 | 8:1 12:1 | 15:0 15:0 | |");
        tells("LL", "1 -1 2", "0:0 0:0 0:1 9:0 | 5:1 12:1 | 15:0 | 5:1 12:1 |");
        // corners give nothing; of HL nothing is changed
        tells("LL", "-1 0 / 0 1", "0:1 9:1 3:0 5:0 1:1 9:0 |");
        tells("HL", "1 1", "0:1 9:0 3:1 12:0 |");
        tells("HL", "1 / 1", "0:1 9:0 5:1 10:0 |");
        tells("HL", "0 -1 / 1 -1", "0:0 0:1 9:0 1:1 9:1 7:1 11:1 |", "0a 47");
    }

    private void signTurned() {
        says("If a is below 0, or a is 0 and b below 0, both are turned (a to -a, b to -b), and what is told is not "
            + "the sign but the other bit.");
        // (-1, 0), (0, -1), (-1, 1), (-1, -1); not (1, -1)
        tells("LL", "-1 -1", "0:1 9:1 5:1 12:0 |");
        tells("LL", "-1 1", "0:1 9:1 5:1 12:1 |");
        tells("LL", "-1 / -1", "0:1 9:1 3:1 10:0 |");
        tells("LL", "-1 / 1", "0:1 9:1 3:1 10:1 |");
        tells("LL", "0 1 / -1 1", "0:0 0:1 9:1 1:1 9:0 7:1 11:1 |");
        tells("LL", "0 1 / -1 -1", "0:0 0:1 9:1 1:1 9:0 7:1 11:0 |");
        tells("LL", "0 -1 / -1 -1", "0:0 0:1 9:1 1:1 9:1 7:1 13:0 |");
        tells("LL", "0 -1 / -1 1", "0:0 0:1 9:1 1:1 9:1 7:1 13:1 |");
    }

    private void signCut() {
        says("each of a and b is cut to -1 .. 1.");
        tells("LL", "2 1 2", "0:1 9:0 5:0 0:1 9:0 | 8:1 12:0 | 15:0 15:0 | |");
        tells("LL", "-2 1 -2", "0:1 9:1 5:0 0:1 9:1 | 8:1 12:1 | 15:0 15:0 | |");
        tells("LL", "2 / 1 / 2", "0:1 9:0 3:0 0:1 9:0 | 4:1 10:0 | 15:0 15:0 | |");
        tells("LL", "-2 / 1 / -2", "0:1 9:1 3:0 0:1 9:1 | 4:1 10:1 | 15:0 15:0 | |");
        // 1 and -1 together are 0
        tells("LL", "-2 1 2", "0:1 9:1 5:0 0:1 9:0 | 8:1 9:0 | 15:0 15:0 | |");
        tells("LL", "2 / 1 / -2", "0:1 9:0 3:0 0:1 9:1 | 4:1 9:0 | 15:0 15:0 | |");
        tells("LL", "0 2 0 / 2 1 2 / 0 2 0", "0:0 0:1 9:0 3:0 1:1 9:0 7:0 1:1 9:0 5:0 2:1 9:0 7:0 "
            + "| 7:0 7:0 8:1 13:0 7:0 7:0 | 15:0 15:0 15:0 15:0 | |");
    }
}
