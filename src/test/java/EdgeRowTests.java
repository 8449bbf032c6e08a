/** The boundary cases of Terms III and IV, of promises 31 (slide) to 49 (trade), and of the SLOTS (65 to 67). */
public final class EdgeRowTests extends Kit {
    private static final String TWO = "hall places 2;";
    private static final String THREE = "hall places 3;";
    private static final String FOUR = "hall places 4;";
    private static final String SEVEN = "hall places 7;";
    private static final String ALL_LEAPS = "leap 1;leap 2;leap 3;leap 4;leap 5;leap 6;";
    private static final int[] NEVER = {-1, Integer.MIN_VALUE, Integer.MAX_VALUE};

    public static void main(String[] args) {
        leapsOfTheBlank();
        rowsOfAllHeads();
        slotsAskedAhead();
        slideEdges();
        slidesBounds();
        reachAndFar();
        fitsNumbers();
        fitsLengths();
        fitBounds();
        fitsEdges();
        askAndLeavesEdges();
        changedEdges();
        sameEdges();
        skippedEdges();
        hangEdges();
        bestEdges();
        suitAndTradeEdges();
        rowBounds();
        writeBounds();
        writeCuts();
        pasteRefuses();
        pasteBounds();
        pasteItself();
        finish("the rows' edges hold");
    }

    /** "A LEAP: the BLANK changes over with the HEAD that hangs so many PLACES to its left or right". */
    private static void leapsOfTheBlank() {
        // No leap goes around an end: from a middle place a leap of 2 leads nowhere.
        SwapTrophies x = hung(THREE + "hang 0 2 1; leap 2;");
        due(33, "no way round the ends", x.reach(), 1);
        SwapTrophies y = hung(THREE + "hang 2 0 1; leap 2;");
        rowOf(y, 0, 0, 1, 0, 2);
        due(31, "to the right", y.slide(0), 1);
        due(32, "to the right", y.slides(0, 0), 2);
        SwapTrophies z = hung(THREE + "leap 2;");
        rowOf(z, 0, 0, 2, 1, 0);
        due(31, "to the left", z.slide(0), 1);
        due(32, "to the left", z.slides(0, 0), 0);
        // Only the blank leaps: two other heads cannot change over in a row of leaps by 1.
        SwapTrophies w = hung(FOUR);
        rowOf(w, 0, 0, 1, 0, 2, 3);
        due(31, "others don't leap", w.slide(0), -1);
    }

    /** "-2: ... it is no row of all HEADS, each once": slide(), slides(), changed(), same(), skipped(). */
    private static void rowsOfAllHeads() {
        long[][] bad = {{}, {0}, {0, 1}, {0, 1, 2, 0}, {0, 1, 2, 3}, {0, 1, 3}, {3, 1, 2}, {0, 1, -1}, {-1, 1, 2}, {0, 1, 1}, {2, 2, 2},
            {0, 0, 0}, {0, 1, 7}, {0, 1, 8}, {0, 1, 32}, {0, 1, 34}, {0, 1, 66}};
        for (int width = 0; width < 4; width++) {
            for (long[] row : bad) {
                toldIs(row, width, -2);
            }
            toldIs(new long[] {0, 1, 2}, width, 0);
        }
        // One is told twice, so that one is missing, whichever it is.
        for (int missing = 0; missing < 3; missing++) {
            for (int twice = 0; twice < 3; twice++) {
                long[] row = {0, 1, 2};
                row[missing] = twice;
                if (missing != twice) {
                    toldIs(row, 0, -2);
                }
            }
        }
        // What is within 8 bytes is not cut to 4 when it is read.
        toldIs(new long[] {0, 1, 2 + (1L << 32)}, 3, -2);
        toldIs(new long[] {1L << 32, 1, 2}, 3, -2);
        toldIs(new long[] {0, 1, Long.MIN_VALUE + 2}, 3, -2);
        toldIs(new long[] {0, 1, Long.MAX_VALUE}, 3, -2);
        toldIs(new long[] {0, 1, 2 + 65536}, 2, -2);
        toldIs(new long[] {0, 1, 2 + 256}, 1, -2);
        toldIs(new long[60], 0, -2);
        // A row of the hall before may be none of this one.
        SwapTrophies x = hung(THREE);
        rowOf(x, 0, 0, 0, 1, 2);
        take(x, FOUR);
        due(31, "a head too few", x.slide(0), -2);
        take(x, TWO);
        due(31, "a head too many", x.slide(0), -2);
        take(x, THREE);
        due(31, "as many again", x.slide(0), 0);
    }

    /** answer 0: the row hangs as now, so each call answers what is due of that. */
    private static void toldIs(long[] row, int width, int answer) {
        SwapTrophies x = hung(THREE);
        rowOf(x, 3, width, row);
        String what = java.util.Arrays.toString(row) + " of width " + width;
        due(31, "slide() of " + what, x.slide(3), answer);
        due(32, "slides() of " + what, x.slides(3, 0), answer == 0 ? -1 : answer);
        due(39, "changed() of " + what, x.changed(3), answer);
        due(40, "same() of " + what, x.same(3), answer == 0 ? 7 : answer);
        due(41, "skipped() of " + what, x.skipped(3), answer);
    }

    /** "-2: there is no such SLOT, no HALL, ... (asked last); -6: it has nothing", of all that read a SLOT. */
    private static void slotsAskedAhead() {
        SwapTrophies none = new SwapTrophies();
        slotsAnswer(none, 0, -2);
        none.row(0, 0, 0);
        slotsAnswer(none, 0, -2);
        slotsAnswer(none, 4, -2);
        SwapTrophies x = hung(THREE);
        for (int slot = 0; slot < 4; slot++) {
            slotsAnswer(x, slot, -6);
        }
        slotsAnswer(x, 4, -2);
        for (int slot : NEVER) {
            slotsAnswer(x, slot, -2);
        }
        // A row of no numbers is a row: of no heads, but of nothing seen.
        x.row(2, 0, 0);
        due(31, "a row of no numbers", x.slide(2), -2);
        due(35, "a row of no numbers", x.fits(2), 6);
        due(62, "a row of no numbers", x.count(6), 1);
    }

    private static void slotsAnswer(SwapTrophies x, int slot, int answer) {
        due(31, "slide(" + slot + ")", x.slide(slot), answer);
        due(32, "slides(" + slot + ", 0)", x.slides(slot, 0), answer);
        due(32, "slides(" + slot + ", -1)", x.slides(slot, -1), answer);
        due(35, "fits(" + slot + ")", x.fits(slot), answer);
        due(36, "fit(" + slot + ", 0)", x.fit(slot, 0), answer);
        due(37, "ask(" + slot + ")", x.ask(slot), answer);
        due(38, "leaves(" + slot + ")", x.leaves(slot), answer);
        due(39, "changed(" + slot + ")", x.changed(slot), answer);
        due(40, "same(" + slot + ")", x.same(slot), answer);
        due(41, "skipped(" + slot + ")", x.skipped(slot), answer);
    }

    /** Promise 31: "the fewest LEAPS ... NONE: by none". */
    private static void slideEdges() {
        SwapTrophies x = hung(TWO);
        rowOf(x, 0, 0, 0, 1);
        rowOf(x, 1, 0, 1, 0);
        due(31, "as now", x.slide(0), 0);
        due(31, "one leap", x.slide(1), 1);
        x.swap(0, 1);
        due(31, "from now on, not from the first row", x.slide(0), 1);
        due(31, "as now", x.slide(1), 0);
        SwapTrophies y = hung(SEVEN);
        rowOf(y, 0, 3, 6, 0, 1, 2, 3, 4, 5);
        due(31, "all the way", y.slide(0), 6);
        rowOf(y, 0, 3, 1, 0, 2, 3, 4, 5, 6);
        due(31, "by none", y.slide(0), -1);
        // The farthest that leaps can make a row of 7 (leaps of 3, 4 and 6 alone).
        SwapTrophies z = hung(SEVEN + "hang 6 1 2 3 4 5 0; leap 3; leap 4; leap 6;");
        due(33, "all rows", z.reach(), 5040);
        due(34, "the most leaps of any hall", z.far(), 63);
    }

    /** Promise 32: "LEAP i (from 0) of the first such ... NONE: there is none such". */
    private static void slidesBounds() {
        SwapTrophies x = hung(SEVEN);
        rowOf(x, 0, 3, 6, 0, 1, 2, 3, 4, 5);
        for (int i = 0; i < 6; i++) {
            due(32, "slides(0, " + i + ")", x.slides(0, i), 5 - i);
        }
        due(32, "behind the last", x.slides(0, 6), -1);
        for (int k : NEVER) {
            due(32, "no such leap", x.slides(0, k), -1);
        }
        rowOf(x, 0, 3, 0, 1, 2, 3, 4, 5, 6);
        due(32, "none needed", x.slides(0, 0), -1);
        rowOf(x, 0, 3, 1, 0, 2, 3, 4, 5, 6);
        due(32, "none leads there", x.slides(0, 0), -1);
        due(32, "none leads there", x.slides(0, -1), -1);
        due(32, "none leads there", x.slides(0, -2), -1);
        // Two ways of as many leaps, 0 1 2 and 1 0 2: the least row of places.
        SwapTrophies y = hung(THREE + "leap 1; leap 2;");
        rowOf(y, 0, 0, 1, 0, 2);
        for (int i = 0; i < 3; i++) {
            due(32, "the least row of places", y.slides(0, i), i);
        }
        due(32, "behind the last", y.slides(0, 3), -1);
        // By 0 1 2 3 it would be as few, but no leap of 3 is told.
        SwapTrophies z = hung(FOUR + "leap 1; leap 2;");
        rowOf(z, 0, 0, 1, 2, 0, 3);
        int[] places = {2, 0, 1, 3};
        due(31, "four leaps", z.slide(0), 4);
        for (int i = 0; i < 4; i++) {
            due(32, "by told leaps alone", z.slides(0, i), places[i]);
        }
    }

    /** Promises 33, 34: "(it, too)". */
    private static void reachAndFar() {
        for (int places = 2; places <= 7; places++) {
            SwapTrophies x = hung("hall places " + places + ";");
            due(33, "by leaps of 1", x.reach(), places);
            due(34, "from an end", x.far(), places - 1);
        }
        SwapTrophies y = hung(SEVEN + "hang 0 1 2 6 3 4 5;");
        due(34, "from the middle", y.far(), 3);
        SwapTrophies z = hung(THREE + "leap 3; leap 6;");
        due(33, "it alone", z.reach(), 1);
        due(34, "it alone", z.far(), 0);
        due(33, "all", hung(SEVEN + ALL_LEAPS).reach(), 5040);
        due(33, "all of two", hung(TWO + ALL_LEAPS).reach(), 2);
        SwapTrophies w = hung(SEVEN + "leap 6;");
        due(33, "the ends", w.reach(), 2);
        w.swap(6, 3);
        due(33, "from now", w.reach(), 1);
        w.undo();
        due(33, "taken back", w.reach(), 2);
        // One hall behind another: the leaps of the one before are forgotten.
        take(w, SEVEN + "leap 3;");
        due(33, "other leaps", w.reach(), 3);
        take(w, FOUR + "leap 3;");
        due(33, "other places", w.reach(), 2);
        for (int place = 0; place < 3; place++) {
            String hang = place == 0 ? "hang 2 0 1;" : place == 1 ? "hang 0 2 1;" : "";
            take(w, THREE + hang + "leap 2;");
            due(33, "by leaps of 2 from place " + place, w.reach(), place == 1 ? 1 : 2);
            due(34, "by leaps of 2 from place " + place, w.far(), place == 1 ? 0 : 1);
            take(w, THREE + hang);
            due(33, "by leaps of 1 from place " + place, w.reach(), 3);
            due(34, "by leaps of 1 from place " + place, w.far(), place == 1 ? 1 : 2);
        }
    }

    /** Promise 35: "a PLACE, n (0 .. 999), a HEAD ... -2: ... a number is none such". */
    private static void fitsNumbers() {
        long[][] fine = {{0, 0, 0}, {2, 0, 0}, {0, 999, 0}, {2, 999, 2}, {0, 0, 2}};
        long[][] bad = {{-1, 0, 0}, {3, 0, 0}, {0, -1, 0}, {0, 1000, 0}, {0, 0, -1}, {0, 0, 3}, {0, 0, 0, 3, 0, 0}, {0, 0, 0, 0, 1000, 0},
            {0, 0, 0, 0, 0, 3}};
        for (int width = 1; width < 4; width++) {
            for (long[] row : fine) {
                seenIs(row, width, 2);
            }
            for (long[] row : bad) {
                seenIs(row, width, -2);
            }
        }
        seenIs(new long[] {0, 127, 0}, 0, 2);
        seenIs(new long[] {0, 65536, 0}, 2, -2);
        seenIs(new long[] {0, 1L << 32, 0}, 3, -2);
        seenIs(new long[] {1L << 32, 0, 0}, 3, -2);
        seenIs(new long[] {0, 0, 1L << 32}, 3, -2);
        seenIs(new long[] {0, Long.MIN_VALUE, 0}, 3, -2);
        seenIs(new long[] {Long.MAX_VALUE, 0, 0}, 3, -2);
    }

    private static void seenIs(long[] row, int width, int answer) {
        SwapTrophies x = hung(THREE);
        rowOf(x, 0, width, row);
        String what = java.util.Arrays.toString(row) + " of width " + width;
        due(35, "fits() of " + what, x.fits(0), answer);
        if (answer < 0) {
            due(36, "fit() of " + what, x.fit(0, 0), answer);
            due(37, "ask() of " + what, x.ask(0), answer);
            due(38, "leaves() of " + what, x.leaves(0), answer);
        }
    }

    /** Promise 35: "three numbers each ... -2: ... not three each". */
    private static void fitsLengths() {
        SwapTrophies x = hung(THREE);
        for (int n = 0; n <= 60; n++) {
            x.row(1, 2, n);
            due(35, n + " numbers", x.fits(1), n % 3 != 0 ? -2 : n == 0 ? 6 : 2);
        }
        x.row(1, 2, 59);
        due(36, "not three each", x.fit(1, 0), -2);
        due(37, "not three each", x.ask(1), -2);
        due(38, "not three each", x.leaves(1), -2);
        // The last three of a full row count, too.
        x.row(1, 2, 60);
        x.write(1, 57, 1);
        x.write(1, 59, 1);
        due(35, "a full row", x.fits(1), 1);
    }

    /** Promise 36: "NONE: there is none; -2 (no such PLACE), -6 likewise". */
    private static void fitBounds() {
        SwapTrophies x = hung(THREE);
        rowOf(x, 0, 0, 0, 0, 2);
        due(36, "seen", x.fit(0, 0), 2);
        due(36, "the least row", x.fit(0, 1), 0);
        due(36, "the least row", x.fit(0, 2), 1);
        due(36, "no such place", x.fit(0, 3), -2);
        for (int k : NEVER) {
            due(36, "no such place", x.fit(0, k), -2);
            due(36, "no such slot", x.fit(k, 0), -2);
        }
        rowOf(x, 0, 0, 0, 0, 2, 0, 0, 1);
        for (int place = 0; place < 3; place++) {
            due(36, "there is none", x.fit(0, place), -1);
        }
        due(36, "no such place, of none", x.fit(0, 3), -2);
    }

    /** Promise 35: "rows to hang at first (told ones aside, nothing done)". */
    private static void fitsEdges() {
        SwapTrophies x = hung(THREE + "hang 2 1 0; law 0 with 1 each 2 from 1;");
        rowOf(x, 0, 1, 0, 0, 0);
        due(35, "told ones aside", x.fits(0), 2);
        due(36, "told ones aside", x.fit(0, 0), 0);
        // Behind one night nothing has changed yet; behind two, places 0 and 1.
        rowOf(x, 0, 1, 0, 1, 2);
        due(36, "behind one night", x.fit(0, 0), 2);
        rowOf(x, 0, 1, 0, 2, 2);
        due(36, "behind two nights", x.fit(0, 1), 2);
        x.night();
        x.swap(0, 2);
        due(36, "nothing done", x.fit(0, 1), 2);
        // 999 nights: the law of nights 1, 3, .., 997 applied 499 times, an odd number.
        rowOf(x, 0, 1, 0, 999, 2);
        due(36, "behind 999 nights", x.fit(0, 1), 2);
        due(35, "all seven places unseen", fitsOf(SEVEN), 5040);
        due(35, "both places unseen", fitsOf(TWO), 2);
    }

    private static int fitsOf(String text) {
        SwapTrophies x = hung(text);
        x.row(0, 0, 0);
        return x.fits(0);
    }

    /** Promises 37, 38: "if fewer than now, the first of several. NONE: none"; "(as now without)". */
    private static void askAndLeavesEdges() {
        SwapTrophies x = hung(THREE);
        rowOf(x, 0, 0);
        due(37, "the first of several", x.ask(0), 0);
        due(38, "two each", x.leaves(0), 2);
        rowOf(x, 0, 0, 0, 0, 1);
        due(37, "the first that is not known", x.ask(0), 1);
        due(38, "one each", x.leaves(0), 1);
        rowOf(x, 0, 0, 0, 0, 1, 2, 0, 0);
        due(35, "one row left", x.fits(0), 1);
        due(37, "none leaves fewer", x.ask(0), -1);
        due(38, "as now", x.leaves(0), 1);
        rowOf(x, 0, 0, 0, 0, 1, 2, 0, 0, 1, 0, 2);
        due(35, "all seen", x.fits(0), 1);
        due(37, "none leaves fewer", x.ask(0), -1);
        due(38, "as now", x.leaves(0), 1);
        rowOf(x, 0, 0, 0, 0, 1, 0, 0, 0);
        due(35, "no row left", x.fits(0), 0);
        due(37, "none leaves fewer", x.ask(0), -1);
        due(38, "as now", x.leaves(0), 0);
        SwapTrophies y = hung(SEVEN);
        y.row(0, 0, 0);
        due(38, "of 5040", y.leaves(0), 720);
        SwapTrophies z = hung(TWO);
        z.row(0, 0, 0);
        due(37, "of two rows", z.ask(0), 0);
        due(38, "of two rows", z.leaves(0), 1);
    }

    /** Promise 39: "the fewest swaps of two PLACES by which it comes from how they hang now". */
    private static void changedEdges() {
        SwapTrophies x = hung(SEVEN + "hang 6 0 1 2 3 4 5;");
        rowOf(x, 0, 0, 6, 0, 1, 2, 3, 4, 5);
        due(39, "none", x.changed(0), 0);
        rowOf(x, 0, 0, 0, 1, 2, 3, 4, 5, 6);
        due(39, "the most", x.changed(0), 6);
        rowOf(x, 0, 0, 5, 0, 1, 2, 3, 4, 6);
        due(39, "one, at both ends", x.changed(0), 1);
        x.swap(0, 6);
        due(39, "from now", x.changed(0), 0);
    }

    /** Promise 40. */
    private static void sameEdges() {
        SwapTrophies x = hung(SEVEN);
        rowOf(x, 0, 0, 0, 1, 2, 3, 4, 5, 6);
        due(40, "all", x.same(0), 127);
        rowOf(x, 0, 0, 6, 0, 1, 2, 3, 4, 5);
        due(40, "none", x.same(0), 0);
        rowOf(x, 0, 0, 0, 2, 1, 4, 3, 5, 6);
        due(40, "both ends", x.same(0), 1 + 32 + 64);
        x.swap(0, 6);
        due(40, "now", x.same(0), 32);
    }

    /** Promise 41: "the fewest that, left out, make it hang behind it as the row tells. NONE: none do". */
    private static void skippedEdges() {
        SwapTrophies x = hung(THREE);
        rowOf(x, 0, 0, 0, 1, 2);
        due(41, "no laws, as now", x.skipped(0), 0);
        rowOf(x, 0, 0, 1, 0, 2);
        due(41, "no laws, not as now", x.skipped(0), -1);
        StringBuilder text = new StringBuilder(SEVEN);
        for (int i = 0; i < 6; i++) {
            text.append("law ").append(i).append(" with ").append(i + 1).append(" each 1 from 0;");
        }
        SwapTrophies y = hung(text.toString());
        rowOf(y, 0, 0, 0, 1, 2, 3, 4, 5, 6);
        due(41, "all six left out", y.skipped(0), 6);
        rowOf(y, 0, 0, 1, 2, 3, 4, 5, 6, 0);
        due(41, "none left out", y.skipped(0), 0);
        rowOf(y, 0, 0, 0, 1, 2, 3, 4, 6, 5);
        due(41, "all but the last", y.skipped(0), 5);
        rowOf(y, 0, 0, 1, 0, 2, 3, 4, 5, 6);
        due(41, "all but the first", y.skipped(0), 5);
        rowOf(y, 0, 0, 6, 0, 1, 2, 3, 4, 5);
        due(41, "none do, the other way", y.skipped(0), -1);
        // A law that does not apply in the next night is none of them.
        SwapTrophies z = hung(TWO + "law 0 with 1 each 2 from 1;");
        rowOf(z, 0, 0, 1, 0);
        due(41, "not in night 0", z.skipped(0), -1);
        z.night();
        due(41, "in night 1", z.skipped(0), 0);
        rowOf(z, 0, 0, 0, 1);
        due(41, "left out in night 1", z.skipped(0), 1);
    }

    /** Promises 42 to 44: "NONE: there is none; -2: there is no such PLACE"; "NONE: by none". */
    private static void hangEdges() {
        SwapTrophies x = hung(TWO + "apart 0 1;");
        due(42, "none of two", x.hangs(), 0);
        due(43, "none of two", x.hang(0), -1);
        due(43, "none of two", x.hang(1), -1);
        due(43, "no such place, of none", x.hang(2), -2);
        due(44, "none of two", x.parts(), -1);
        SwapTrophies y = hung(SEVEN);
        due(42, "all", y.hangs(), 5040);
        due(44, "as it hangs", y.parts(), 0);
        for (int place = 0; place < 7; place++) {
            due(43, "the least row of all", y.hang(place), place);
        }
        due(43, "no such place", y.hang(7), -2);
        for (int k : NEVER) {
            due(43, "no such place", y.hang(k), -2);
        }
        // Both ends are not beside each other.
        SwapTrophies z = hung(THREE + "apart 0 2;");
        due(42, "1 in the middle", z.hangs(), 2);
        due(44, "it hangs so", z.parts(), 0);
        z.swap(0, 1);
        due(44, "one swap", z.parts(), 1);
        due(43, "the least, whatever hangs now", z.hang(0), 0);
        // A hall behind another: its pairs are forgotten, whichever call asks first.
        take(z, THREE);
        due(42, "all of three", z.hangs(), 6);
        take(z, THREE + "apart 0 1;");
        due(43, "2 in the middle", z.hang(1), 2);
        take(z, THREE);
        due(44, "as it hangs", z.parts(), 0);
        take(z, THREE + "apart 0 1; apart 1 2;");
        due(44, "1 beside none", z.parts(), -1);
        due(44, "one swap, asked first", hung(THREE + "apart 0 1;").parts(), 1);
        due(43, "asked first", hung(THREE + "apart 0 1;").hang(2), 1);
    }

    /** Promises 45 to 47: the greatest sums, ways, and "-2: there is none such". */
    private static void bestEdges() {
        StringBuilder text = new StringBuilder(SEVEN);
        for (int i = 0; i < 7; i++) {
            text.append("suit ").append(i).append(' ').append(6 - i).append(" 99;");
        }
        SwapTrophies x = hung(text.toString());
        due(45, "the greatest sum", x.best(), 693);
        due(47, "one way", x.ways(), 1);
        for (int place = 0; place < 7; place++) {
            due(46, "turned about", x.bests(place), 6 - place);
        }
        due(46, "no such place", x.bests(7), -2);
        for (int k : NEVER) {
            due(46, "no such place", x.bests(k), -2);
        }
        SwapTrophies y = hung(SEVEN);
        due(45, "nothing suits", y.best(), 0);
        due(47, "all ways", y.ways(), 5040);
        due(46, "the least row of all", y.bests(3), 3);
        due(47, "both ways", hung(TWO + "suit 0 0 1; suit 0 1 1;").ways(), 2);
        due(45, "one that suits two places hangs in one", hung(TWO + "suit 0 0 1; suit 0 1 1;").best(), 1);
        // By any row, whatever hangs now and whoever must be apart.
        SwapTrophies z = hung(TWO + "hang 1 0; suit 0 0 9; apart 0 1;");
        due(45, "by any row", z.best(), 9);
        due(46, "by any row", z.bests(0), 0);
        // A hall behind another, lesser or greater, whichever call asks first.
        take(z, text.toString());
        due(47, "one way", z.ways(), 1);
        take(z, THREE);
        due(45, "a lesser hall", z.best(), 0);
        take(z, text.toString());
        due(46, "a greater hall", z.bests(0), 6);
        take(z, TWO + "suit 1 0 3;");
        due(46, "a lesser hall", z.bests(0), 1);
        due(45, "a lesser hall", z.best(), 3);
        due(46, "asked first", hung(TWO + "suit 1 0 3;").bests(1), 0);
        due(47, "asked first", hung(TWO + "suit 1 0 3;").ways(), 1);
    }

    /** Promises 48, 49: "if more than now, the first of several. NONE: none". */
    private static void suitAndTradeEdges() {
        SwapTrophies x = hung(TWO + "suit 0 0 5; suit 1 0 5;");
        due(48, "one suits", x.suit(), 5);
        due(49, "as much is not more", x.trade(), -1);
        SwapTrophies y = hung(TWO + "suit 0 0 5; suit 1 0 6;");
        due(49, "more by one", y.trade(), 1);
        y.swap(0, 1);
        due(49, "less", y.trade(), -1);
        due(48, "now", y.suit(), 6);
        due(48, "nothing suits", hung(SEVEN).suit(), 0);
        due(49, "nothing suits", hung(SEVEN).trade(), -1);
        due(49, "the last pair", hung(SEVEN + "suit 6 5 1;").trade(), 56);
        due(49, "the ends", hung(SEVEN + "suit 6 0 1;").trade(), 6);
        due(49, "the first of several", hung(SEVEN + "suit 6 5 1; suit 2 1 1; suit 3 2 1;").trade(), 12);
        due(49, "the most, not the first", hung(SEVEN + "suit 6 5 2; suit 2 1 1;").trade(), 56);
        due(49, "what the lesser place loses", hung(TWO + "suit 0 0 3; suit 0 1 2;").trade(), -1);
        due(49, "what the other place loses", hung(TWO + "suit 1 1 3; suit 1 0 2;").trade(), -1);
        due(49, "what both lose", hung(TWO + "suit 0 0 3; suit 1 1 3; suit 0 1 5;").trade(), -1);
        due(49, "what both win", hung(TWO + "suit 0 0 3; suit 1 1 3; suit 0 1 5; suit 1 0 2;").trade(), 1);
        StringBuilder text = new StringBuilder(SEVEN);
        for (int i = 0; i < 7; i++) {
            text.append("suit ").append(i).append(' ').append(i).append(" 99;");
        }
        due(48, "the greatest sum", hung(text.toString()).suit(), 693);
    }

    /** Promise 65: the bounds, "all 0 (in place of another one)", "-3, and the SLOT stays". */
    private static void rowBounds() {
        SwapTrophies x = hung(THREE);
        for (int slot = 0; slot < 4; slot++) {
            for (int width = 0; width < 4; width++) {
                due(65, "row(" + slot + ", " + width + ", 60)", x.row(slot, width, 60), 0);
                due(65, "row(" + slot + ", " + width + ", 0)", x.row(slot, width, 0), 0);
                due(65, "row(" + slot + ", " + width + ", 61)", x.row(slot, width, 61), -2);
                due(65, "row(" + slot + ", " + width + ", -1)", x.row(slot, width, -1), -3);
            }
            due(65, "SLOTS that have a row", x.count(6), slot + 1);
        }
        for (int k : NEVER) {
            due(65, "no such slot", x.row(k, 0, 1), -2);
            due(65, "no such width", x.row(0, k, 1), -2);
            due(65, "no such slot, ahead of n", x.row(k, 0, -1), -2);
            due(65, "no such width, ahead of n", x.row(0, k, -1), -2);
        }
        due(65, "no such slot", x.row(4, 0, 1), -2);
        due(65, "no such width", x.row(0, 4, 1), -2);
        due(65, "n far above", x.row(0, 0, Integer.MAX_VALUE), -2);
        due(65, "n far below", x.row(0, 0, Integer.MIN_VALUE), -3);
        // What is refused leaves the slot: its numbers, its length, its width.
        rowOf(x, 1, 1, 0, 1, 2);
        x.row(1, 0, -1);
        x.row(1, 0, 61);
        x.row(1, 4, 3);
        due(65, "the slot stays", x.same(1), 7);
        due(65, "its length stays", x.write(1, 3, 0), -7);
        rowOf(x, 2, 1, 2, 1, 0);
        due(65, "its width stays", x.paste(2, 0, 1, 0, 3), 0);
        // All 0, in place of another one.
        x.row(1, 1, 3);
        due(65, "all 0: heads", x.same(1), -2);
        due(65, "all 0: seen", x.fits(1), 2);
        x.row(1, 1, 6);
        x.write(1, 3, 2);
        x.write(1, 5, 1);
        x.row(1, 1, 3);
        x.row(1, 1, 6);
        due(65, "all 0 behind a shorter one", x.fits(1), 2);
        due(65, "a slot that gets nothing has nothing", refusedNew(), -6);
    }

    private static int refusedNew() {
        SwapTrophies x = new SwapTrophies();
        x.row(0, 0, -1);
        x.row(0, 0, 61);
        due(65, "no row", x.count(6), 0);
        return x.write(0, 0, 0);
    }

    /** Promise 66: "-2: there is no such SLOT; -6: it has nothing; -7: there is no such number". */
    private static void writeBounds() {
        SwapTrophies x = hung(THREE);
        x.row(0, 0, 60);
        x.row(1, 0, 0);
        due(66, "the last number", x.write(0, 59, 1), 0);
        due(66, "behind the last", x.write(0, 60, 1), -7);
        due(66, "of no numbers", x.write(1, 0, 1), -7);
        for (int k : NEVER) {
            due(66, "no such number", x.write(0, k, 1), -7);
            due(66, "no such slot", x.write(k, 0, 1), -2);
            due(66, "no such slot, ahead of i", x.write(k, -1, 1), -2);
            due(66, "nothing, ahead of i", x.write(2, k, 1), -6);
        }
        due(66, "no such slot", x.write(4, 0, 1), -2);
        rowOf(x, 3, 0, 0, 1, 2);
        x.write(3, 3, 0);
        x.write(3, -1, 2);
        due(66, "what is refused is not written", x.same(3), 7);
    }

    /** Promise 66: "v, cut to its WIDTH". */
    private static void writeCuts() {
        long[] tops = {1L << 8, 1L << 16, 1L << 32, 0};
        long[] halves = {1L << 7, 1L << 15, 1L << 31, Long.MIN_VALUE};
        for (int width = 0; width < 4; width++) {
            long top = tops[width];
            long half = halves[width];
            cutTo(width, top, 0);
            cutTo(width, -top, 0);
            cutTo(width, top + 1, 1);
            cutTo(width, 2 - top, 2);
            cutTo(width, 5 * top + 2, 2);
            // Neither the greatest number of the width nor those below 0 are heads.
            for (long v : new long[] {top - 1, half, half - 1, half + 1, -half, -1, -2}) {
                cutTo(width, v, -2);
            }
        }
        cutTo(0, Long.MIN_VALUE, 0);
        cutTo(1, Long.MIN_VALUE, 0);
        cutTo(2, Long.MIN_VALUE, 0);
        cutTo(0, 0x1234567800000002L, 2);
        cutTo(1, 0x1234567800000002L, 2);
        cutTo(2, 0x1234567800000002L, 2);
        cutTo(3, 0x1234567800000002L, -2);
        // Numbers bear a sign: a byte of 200 is none of the nights.
        seenIs(new long[] {0, 127, 0}, 0, 2);
        seenIs(new long[] {0, 128, 0}, 0, -2);
        seenIs(new long[] {0, 255, 0}, 0, -2);
        seenIs(new long[] {0, 256 + 127, 0}, 0, 2);
        seenIs(new long[] {0, 65536 + 999, 0}, 1, 2);
        seenIs(new long[] {0, 65536 - 1, 0}, 1, -2);
    }

    /** head: the HEAD that v is then; -2 if it is none. */
    private static void cutTo(int width, long v, int head) {
        SwapTrophies x = hung(THREE);
        long[] others = head == 0 ? new long[] {1, 2} : head == 1 ? new long[] {0, 2} : new long[] {0, 1};
        rowOf(x, 0, width, v, others[0], others[1]);
        due(66, v + " cut to width " + width, x.changed(0) == -2 ? -2 : headOf(x), head);
    }

    private static int headOf(SwapTrophies x) {
        int[] changes = new int[3];
        for (int head = 0; head < 3; head++) {
            take(x, THREE + "hang " + head + " " + (head + 1) % 3 + " " + (head + 2) % 3 + ";");
            changes[head] = x.same(0) & 1;
        }
        return changes[0] == 1 ? 0 : changes[1] == 1 ? 1 : 2;
    }

    /** Promise 67: "-2 ...; -6 ...; -8 ...; -7, and nothing happens", asked in this order. */
    private static void pasteRefuses() {
        SwapTrophies x = hung(THREE);
        rowOf(x, 0, 0, 0, 1, 2);
        rowOf(x, 1, 0, 2, 1, 0);
        rowOf(x, 2, 1, 0, 1, 2);
        for (int k : new int[] {-1, 4, Integer.MIN_VALUE, Integer.MAX_VALUE}) {
            due(67, "no such slot", x.paste(k, 0, 0, 0, 1), -2);
            due(67, "no such slot", x.paste(0, 0, k, 0, 1), -2);
            due(67, "no such slot, ahead of nothing", x.paste(3, 0, k, 0, 1), -2);
            due(67, "no such slot, ahead of nothing", x.paste(k, 0, 3, 0, 1), -2);
            due(67, "no such slot, ahead of n", x.paste(k, -1, 0, 9, -1), -2);
        }
        due(67, "one has nothing", x.paste(3, 0, 0, 0, 1), -6);
        due(67, "the other has nothing", x.paste(0, 0, 3, 0, 1), -6);
        due(67, "nothing of its own", x.paste(3, 0, 3, 0, 0), -6);
        due(67, "nothing, ahead of bounds", x.paste(0, -1, 3, 9, -1), -6);
        due(67, "not of one width", x.paste(0, 0, 2, 0, 1), -8);
        due(67, "not of one width, none to put", x.paste(2, 0, 0, 0, 0), -8);
        due(67, "not of one width, ahead of bounds", x.paste(0, -1, 2, 9, -1), -8);
        due(67, "nothing happened", x.same(0), 7);
        due(67, "nothing happened", x.same(1), 2);
        due(67, "nothing happened", x.same(2), 7);
    }

    /** Promise 67: "-7, and nothing happens: some are beyond their rows, or a place or n is below 0". */
    private static void pasteBounds() {
        SwapTrophies x = hung(THREE);
        rowOf(x, 0, 0, 0, 1, 2);
        rowOf(x, 1, 0, 2, 1, 0, 0);
        int[][] beyond = {{0, 0, 4}, {1, 0, 3}, {2, 0, 2}, {3, 0, 1}, {4, 0, 0}, {0, 2, 3}, {0, 4, 1}, {0, 5, 0}, {-1, 0, 1}, {0, -1, 1},
            {0, 0, -1}, {-1, 0, 0}, {0, -1, 0}, {-1, -1, 2}, {1, 1, -1}, {3, 4, -1}};
        for (int[] p : beyond) {
            due(67, "paste(0, " + p[0] + ", 1, " + p[1] + ", " + p[2] + ")", x.paste(0, p[0], 1, p[1], p[2]), -7);
        }
        int most = Integer.MAX_VALUE;
        int least = Integer.MIN_VALUE;
        int[][] wrapping = {{most, 0, 1}, {0, most, 1}, {0, 0, most}, {1, 1, most}, {most, most, most}, {least, 0, least}, {0, least, least},
            {least, least, least}, {most, 0, 2}, {least, 0, most}, {2, 2, least}};
        for (int[] p : wrapping) {
            due(67, "sums that wrap around", x.paste(0, p[0], 1, p[1], p[2]), -7);
        }
        x.write(1, 3, 0);
        due(67, "nothing happened", x.paste(1, 0, 0, 0, 3), 0);
        due(67, "nothing happened: 2 1 0", x.same(0), 2);
        due(67, "none, at the ends", x.paste(0, 3, 1, 4, 0), 0);
        due(67, "none, at the beginning", x.paste(0, 0, 1, 0, 0), 0);
        due(67, "just to the end", x.paste(0, 2, 1, 3, 1), 0);
        due(67, "just to the end", x.paste(0, 0, 1, 1, 3), 0);
        x.row(2, 0, 0);
        due(67, "of no numbers, none", x.paste(2, 0, 0, 0, 0), 0);
        due(67, "to no numbers, none", x.paste(0, 0, 2, 0, 0), 0);
        due(67, "of no numbers, one", x.paste(2, 0, 0, 0, 1), -7);
    }

    /** Promise 67: "(or its own), from one on, as they were". */
    private static void pasteItself() {
        SwapTrophies x = hung(FOUR);
        rowOf(x, 0, 0, 3, 0, 1, 2);
        due(67, "to the right", x.paste(0, 1, 0, 2, 2), 0);
        x.write(0, 1, 2);
        due(67, "3 2 0 1", x.same(0), 0);
        due(67, "3 2 0 1", x.changed(0), 3);
        rowOf(x, 0, 0, 0, 0, 1, 2);
        due(67, "all but the first, to the left", x.paste(0, 1, 0, 0, 3), 0);
        x.write(0, 3, 3);
        due(67, "0 1 2 3", x.same(0), 15);
        due(67, "onto itself", x.paste(0, 0, 0, 0, 4), 0);
        due(67, "0 1 2 3 still", x.same(0), 15);
        due(67, "all but the last, to the right", x.paste(0, 0, 0, 1, 3), 0);
        x.write(0, 0, 3);
        // 3 0 1 2: a row put on one by one would be 3 0 0 0.
        due(67, "3 0 1 2", x.changed(0), 3);
        for (int width = 0; width < 4; width++) {
            rowOf(x, 1, width, 3, 2, 1, 0);
            x.row(2, width, 4);
            due(67, "of each width", x.paste(1, 0, 2, 0, 4), 0);
            due(67, "3 2 1 0", x.changed(2), 2);
        }
    }
}
