/** Each promise of the document with answers worked out by hand: ordinary ones, edges, wrong inputs. */
public final class PromiseTests extends Kit {
    private static final String FIVE = "hall places 5; hang 1 0 3 4 2; law 0 with 1 each 2 from 0;\n"
            + "law 2 with 4 each 3 from 1; leap 1; leap 2; suit 0 0 9; suit 1 1 7; suit 4 2 5; apart 0 3; apart 1 2;";
    private static final String THREE = "hall places 3;";

    public static void main(String[] args) {
        newObject();
        feedAndEnd();
        hallTexts();
        faults();
        toldOnes();
        laterNights();
        farNights();
        rightness();
        besideOthers();
        slides();
        slidesByTwoLeaps();
        fits();
        askAndLeaves();
        changedSameSkipped();
        hangings();
        suiting();
        game();
        lots();
        actsAndUndo();
        drawnNights();
        tells();
        counts();
        images();
        rows();
        wrongInputs();
        noHall();
        refusalsInOrder();
        finish("all promises hold");
    }

    private static void newObject() {
        SwapTrophies x = new SwapTrophies();
        for (int what = 0; what <= 6; what++) {
            due(1, "count(" + what + ")", x.count(what), 0);
        }
        due(5, "fault(0) ahead of any", x.fault(0), 0);
        due(5, "fault(1) ahead of any", x.fault(1), -1);
        due(1, "rights()", x.rights(), -2);
        due(1, "back(0)", x.back(0), -6);
        due(1, "write(0, 0, 0)", x.write(0, 0, 0), -6);
        due(1, "NONE", SwapTrophies.NONE, -1);
    }

    private static void feedAndEnd() {
        SwapTrophies x = new SwapTrophies();
        due(2, "feed", x.feed(0x68616c6c, 0x20706c61, 0x63657320, 0x333b2020, 0x0a202020), 20);
        due(62, "count(5)", x.count(5), 20);
        due(4, "hall() of fed bytes, the highest first", x.hall(), 1);
        due(4, "the tape is empty then", x.count(5), 0);
        due(2, "places", x.count(0), 3);
        for (int i = 1; i <= 40; i++) {
            due(2, "feed " + i, x.feed(0, 0, 0, 0, 0), 20 * i);
        }
        due(2, "feed beyond 800", x.feed(0, 0, 0, 0, 0), -1);
        due(2, "none came", x.count(5), 800);
        due(3, "end(801)", x.end(801), -1);
        due(3, "end(-1)", x.end(-1), -1);
        due(3, "end(800)", x.end(800), 800);
        due(3, "end(781)", x.end(781), 781);
        due(2, "feed would have 801", x.feed(0, 0, 0, 0, 0), -1);
        due(3, "end(780)", x.end(780), 780);
        due(2, "feed to 800", x.feed(0, 0, 0, 0, 0), 800);
        due(3, "end(0)", x.end(0), 0);
        due(3, "end(1)", x.end(1), -1);
    }

    private static void hallTexts() {
        due(4, "lines", hung(FIVE).count(4), 11);
        SwapTrophies x = hung("hall places 2;leap1;leap6 ;\n\nhang 1 0;hang\n0\n1;suit 0 1 99;suit 0 1 3;apart 0 1;apart 1 0;");
        due(4, "a later hang strikes", x.at(0), 0);
        due(7, "a later suit of both strikes", x.suits(0, 1), 3);
        due(62, "pairs count once", x.count(2), 1);
        due(4, "nothing done", x.night(), 2);
        due(4, "nights", x.nights(), 1);
        put(x, "hall places 007;");
        due(4, "leading noughts", x.hall(), 1);
        due(4, "places", x.count(0), 7);
        due(4, "nothing done again", x.nights(), 0);
        due(4, "acts", x.count(3), 0);
        x.swap(0, 6);
        put(x, "hall places 3; leap 7;");
        due(4, "a fault", x.hall(), -4);
        due(4, "all stays: places", x.count(0), 7);
        due(4, "all stays: acts", x.count(3), 1);
        due(4, "all stays: row", x.at(0), 6);
        due(4, "all stays: the tape", x.count(5), 22);
        due(4, "the same fault again", x.hall(), -4);
        due(3, "cut where the fault is", x.end(x.fault(1)), 20);
        put(x, "2;");
        due(4, "the text mended", x.hall(), 2);
        due(4, "places", x.count(0), 3);
        due(4, "the tape is empty then", x.count(5), 0);
        put(x, " \n ");
        due(4, "blanks alone", x.hall(), 0);
        due(4, "there is none then", x.rights(), -2);
        due(4, "no places", x.count(0), 0);
        due(5, "no fault", x.fault(0), 0);
        put(x, "hall places 3;law0with1each1from0;");
        due(4, "the longest tokens need no blanks", x.hall(), 2);
        due(4, "the whole tape", wideText(), 1 + 98);
    }

    private static int wideText() {
        StringBuilder text = new StringBuilder(THREE);
        while (text.length() + 8 <= 800) {
            text.append("leap 1 ;");
        }
        SwapTrophies x = new SwapTrophies();
        put(x, text.toString());
        return x.hall();
    }

    private static void faults() {
        fault("hall places 3", 1, 13);
        fault("hall places 3 \n", 1, 15);
        fault("hall", 1, 4);
        fault(";", 1, 0);
        fault(" 7;", 1, 1);
        fault("#", 1, 0);
        fault("hang 0 1 2;", 1, 0);
        fault("Hall places 3;", 1, 0);
        fault("halls places 3;", 1, 0);
        fault("hallz places 3;", 1, 0);
        fault("hallaplaces 3;", 1, 0);
        fault("call places 3;", 1, 0);
        fault("hall9places 3;", 1, 4);
        fault("hall0places 3;", 1, 4);
        fault("hal l places 3;", 1, 0);
        fault("hall place 3;", 1, 5);
        fault("hall 3;", 1, 5);
        fault("hall places three;", 1, 12);
        fault("hall places 1;", 2, 12);
        fault("hall places 8;", 2, 12);
        fault("hall places 99999999999999999999999;", 2, 12);
        fault("hall places 4294967299;", 2, 12);
        fault("hall places 3 3;", 1, 14);
        fault("hall places 3;;", 1, 14);
        fault(THREE + "hall places 3;", 1, 14);
        fault(THREE + "heads 3;", 1, 14);
        fault(THREE + "\tleap 1;", 1, 14);
        fault(THREE + "leap 1\r;", 1, 20);
        fault(THREE + "leap " + (char) 233 + ";", 1, 19);
        fault(THREE + "leap 0;", 2, 19);
        fault(THREE + "leap 7;", 2, 19);
        fault(THREE + "leap;", 1, 18);
        fault(THREE + "leap -1;", 1, 19);
        fault(THREE + "hang 0 1;", 1, 22);
        fault(THREE + "hang;", 1, 18);
        fault(THREE + "hang 0 1 2 0;", 1, 25);
        fault(THREE + "hang 0 1 2 9;", 1, 25);
        fault(THREE + "hang 0 1 1;", 2, 23);
        fault(THREE + "hang 0 0;", 2, 21);
        fault(THREE + "hang 0 1 3;", 2, 23);
        fault(THREE + "hang 0 1", 1, 22);
        fault(THREE + "law 3 with 1 each 1 from 0;", 2, 18);
        fault(THREE + "law 1 with 1 each 1 from 0;", 2, 25);
        fault(THREE + "law 1 with 3 each 1 from 0;", 2, 25);
        fault(THREE + "law 1 and 2 each 1 from 0;", 1, 20);
        fault(THREE + "law 1 with 2 each 0 from 0;", 2, 32);
        fault(THREE + "law 1 with 2 each 7 from 0;", 2, 32);
        fault(THREE + "law 1 with 2 each 1 from 1;", 2, 39);
        fault(THREE + "law 1 with 2 each 6 from 6;", 2, 39);
        fault(THREE + "law 1 with 2 each 6;", 1, 33);
        fault(THREE + "suit 3 0 1;", 2, 19);
        fault(THREE + "suit 0 3 1;", 2, 21);
        fault(THREE + "suit 0 0 100;", 2, 23);
        fault(THREE + "suit 0 0;", 1, 22);
        fault(THREE + "suit 0 0 1 1;", 1, 25);
        fault(THREE + "apart 0 0;", 2, 22);
        fault(THREE + "apart 3 0;", 2, 20);
        fault(THREE + "apart 0 3;", 2, 22);
        fault(THREE + "apart 0;", 1, 21);
        fault(THREE + "leap 9; #", 2, 19);
        fault(THREE + "leap 9#", 2, 19);
        fault(THREE + "leap 1; apart", 1, 27);
        SwapTrophies cut = new SwapTrophies();
        put(cut, THREE + "leap11");
        cut.end(19);
        due(4, "a cut number", cut.hall(), -4);
        due(5, "what is cut off is gone", cut.fault(0), 1);
        due(5, "what is cut off is gone", cut.fault(1), 19);
        StringBuilder laws = new StringBuilder(THREE);
        for (int i = 0; i < 6; i++) {
            laws.append("law 0 with 1 each 6 from ").append(i).append(";");
        }
        due(62, "six laws", hung(laws.toString()).count(1), 6);
        due(6, "the sixth", hung(laws.toString()).law(5, 3), 5);
        fault(laws + "law", 3, laws.length());
        fault(laws + " law 9;", 3, laws.length() + 1);
        fault(laws + "leap law;", 1, laws.length() + 5);
    }

    private static void toldOnes() {
        SwapTrophies x = hung(FIVE);
        int[][] laws = {{0, 1, 2, 0}, {2, 4, 3, 1}};
        for (int law = 0; law < 2; law++) {
            for (int what = 0; what < 4; what++) {
                due(6, "law(" + law + ", " + what + ")", x.law(law, what), laws[law][what]);
            }
        }
        due(6, "places stay as told", hung("hall places 4;law 3 with 1 each 1 from 0;").law(0, 0), 3);
        due(7, "suits(0, 0)", x.suits(0, 0), 9);
        due(7, "suits(4, 2)", x.suits(4, 2), 5);
        due(7, "suits(2, 4)", x.suits(2, 4), 0);
        due(8, "apart(0)", x.apart(0), 8);
        due(8, "apart(3)", x.apart(3), 1);
        due(8, "apart(2)", x.apart(2), 2);
        due(8, "apart(4)", x.apart(4), 0);
        int[] row = {1, 0, 3, 4, 2};
        for (int place = 0; place < 5; place++) {
            due(9, "at(" + place + ")", x.at(place), row[place]);
            due(10, "where(" + row[place] + ")", x.where(row[place]), place);
        }
    }

    private static void laterNights() {
        SwapTrophies x = hung(FIVE);
        String[] rows = {"10342", "01342", "01243", "10243", "10243", "01342", "01342", "10342"};
        int[] right = {0, 2, 3, 1, 1, 2, 2, 0};
        for (int n = 0; n < rows.length; n++) {
            for (int place = 0; place < 5; place++) {
                due(11, "later(" + place + ", " + n + ")", x.later(place, n), rows[n].charAt(place) - '0');
            }
            due(12, "right(" + n + ")", x.right(n), right[n]);
        }
        due(11, "nothing done", x.at(0), 1);
        due(13, "rights()", x.rights(), 0);
        due(14, "whole()", x.whole(), -1);
        due(15, "round()", x.round(), 7);
        due(16, "comes(1, 0)", x.comes(1, 0), 0);
        due(16, "comes(0, 0)", x.comes(0, 0), 1);
        due(16, "comes(2, 2)", x.comes(2, 2), 2);
        due(16, "comes(4, 2)", x.comes(4, 2), -1);
        due(17, "meet(0, 1)", x.meet(0, 1), 0);
        due(17, "meet(2, 3)", x.meet(2, 3), -1);
        due(17, "meet(0, 2)", x.meet(0, 2), 3);
        due(17, "meet(2, 0)", x.meet(2, 0), 3);
        int[] laws = {1, 2, 1, 0, 3, 0, 1, 2};
        for (int n = 0; n < laws.length; n++) {
            due(18, "tonight(" + n + ")", x.tonight(n), laws[n]);
        }
        due(29, "finest(0)", x.finest(0), 0);
        due(29, "finest(1)", x.finest(1), 1);
        due(29, "finest(12)", x.finest(12), 2);
        due(29, "finest(5000)", x.finest(5000), 2);
        due(30, "spells(3, 4)", x.spells(3, 4), 0);
        due(30, "spells(0, 0)", x.spells(0, 0), 0);
        due(30, "spells(0, 4)", x.spells(0, 4), 2);
        due(30, "spells(0, 5)", x.spells(0, 5), 3);
        x.night();
        due(18, "tonight(0) behind a night", x.tonight(0), 2);
        due(11, "later(2, 1) behind a night", x.later(2, 1), 2);
        due(14, "whole() now", hung(THREE).whole(), 0);
        due(15, "round() without laws", hung(THREE).round(), 1);
        SwapTrophies y = hung("hall places 3; hang 1 2 0; law 0 with 1 each 1 from 0; law 1 with 2 each 1 from 0;");
        due(11, "laws by numbers", y.later(0, 1), 2);
        due(11, "laws by numbers", y.later(1, 1), 0);
        due(14, "whole() behind two", y.whole(), 2);
        due(15, "round() of three", y.round(), 3);
        due(13, "rights()", hung("hall places 4;hang 0 2 1 3;").rights(), 9);
    }

    private static void farNights() {
        // A ring of seven each night: night n leaves in place 0 the head of place n modulo 7.
        StringBuilder text = new StringBuilder("hall places 7;");
        for (int i = 0; i < 6; i++) {
            text.append("law ").append(i).append(" with ").append(i + 1).append(" each 1 from 0;");
        }
        SwapTrophies x = hung(text.toString());
        due(11, "later(0, 1)", x.later(0, 1), 1);
        due(11, "later(6, 1)", x.later(6, 1), 0);
        due(11, "later(0, 1000000000)", x.later(0, 1_000_000_000), 1_000_000_000 % 7);
        due(11, "later(3, 999999999)", x.later(3, 999_999_999), (3 + 999_999_999) % 7);
        due(12, "right(1000000000)", x.right(1_000_000_000), 0);
        due(12, "right(999999994)", x.right(999_999_994), 999_999_994 % 7 == 0 ? 7 : 0);
        due(12, "right(1000000000 - 6)", x.right(7 * (1_000_000_000 / 7)), 7);
        due(15, "round()", x.round(), 7);
        due(14, "whole()", x.whole(), 0);
        due(30, "spells(0, 5000)", x.spells(0, 5000), 5000 / 7);
        due(16, "comes(6, 0)", x.comes(6, 0), 6);
        due(18, "tonight(1000000000)", x.tonight(1_000_000_000), 63);
        // A law each 6 and one each 5: both in night 3 modulo 30 alone.
        SwapTrophies y = hung("hall places 2; law 0 with 1 each 6 from 3; law 1 with 0 each 5 from 3;");
        due(18, "tonight(33)", y.tonight(33), 3);
        due(18, "tonight(999999993)", y.tonight(999_999_993), 3);
        due(18, "tonight(0)", y.tonight(0), 0);
        // Behind 30 nights, 5 + 6 changes: an odd number.
        due(11, "later(0, 30)", y.later(0, 30), 1);
        due(11, "later(0, 60)", y.later(0, 60), 0);
        due(11, "later(0, 999999990)", y.later(0, 999_999_990), 1);
        // Twelve turns of 60 nights: the longest that a hall needs to come round.
        SwapTrophies z = hung("hall places 7;hang 2 1 3 0 4 5 6;law 6 with 4 each 5 from 2;law 0 with 2 each 3 from 2;"
                + "law 4 with 0 each 4 from 1;law 1 with 5 each 3 from 1;law 2 with 3 each 2 from 1;law 3 with 1 each 5 from 2;");
        due(14, "whole()", z.whole(), 719);
        due(29, "finest(5000)", z.finest(5000), 719);
        due(29, "finest(719)", z.finest(719), 719);
        due(29, "finest(718)", z.finest(718) < 719 ? 0 : 1, 0);
    }

    private static void rightness() {
        SwapTrophies x = hung(FIVE);
        due(19, "odd()", x.odd(), 1);
        due(20, "swaps()", x.swaps(), 3);
        due(21, "steps()", x.steps(), 3);
        due(22, "rings()", x.rings(), 2);
        due(23, "stay()", x.stay(), 3);
        due(24, "ring(2)", x.ring(2), 28);
        due(24, "ring(4)", x.ring(4), 28);
        due(24, "ring(0)", x.ring(0), 3);
        due(25, "away(2)", x.away(2), 2);
        due(25, "away(3)", x.away(3), 1);
        due(26, "lost()", x.lost(), 2);
        SwapTrophies y = hung("hall places 7; hang 6 5 4 3 2 1 0;");
        due(19, "odd() of a row turned about", y.odd(), 1);
        due(20, "swaps() of a row turned about", y.swaps(), 3);
        due(21, "steps() of a row turned about", y.steps(), 21);
        due(22, "rings() of a row turned about", y.rings(), 3);
        due(23, "stay() of a row turned about", y.stay(), 1);
        due(24, "ring(3) of a row turned about", y.ring(3), 8);
        due(25, "away(3)", y.away(3), 0);
        due(26, "lost(), the first of several", y.lost(), 0);
        SwapTrophies z = hung("hall places 7;");
        due(19, "odd() of a right row", z.odd(), 0);
        due(20, "swaps() of a right row", z.swaps(), 0);
        due(21, "steps() of a right row", z.steps(), 0);
        due(22, "rings() of a right row", z.rings(), 0);
        due(23, "stay() of a right row", z.stay(), 7);
        due(26, "lost() of a right row", z.lost(), -1);
        SwapTrophies w = hung("hall places 7; hang 1 2 3 4 5 6 0;");
        due(19, "odd() of one ring", w.odd(), 0);
        due(20, "swaps() of one ring", w.swaps(), 6);
        due(21, "steps() of one ring", w.steps(), 6);
        due(22, "rings() of one ring", w.rings(), 1);
        due(23, "stay() of one ring", w.stay(), 6);
        due(24, "ring(5) of one ring", w.ring(5), 127);
        due(26, "lost() of one ring", w.lost(), 0);
    }

    private static void besideOthers() {
        SwapTrophies x = hung(FIVE);
        due(27, "beside(4)", x.beside(4), 12);
        due(27, "beside(1)", x.beside(1), 1);
        due(27, "beside(2)", x.beside(2), 16);
        due(28, "quarrels()", x.quarrels(), 1);
        x.swap(1, 4);
        due(28, "quarrels() behind a swap", x.quarrels(), 1);
        x.swap(0, 2);
        due(28, "quarrels() of 3 2 1 4 0", x.quarrels(), 1);
        x.swap(0, 3);
        due(28, "quarrels() of 4 2 1 3 0", x.quarrels(), 2);
        due(28, "quarrels() without apart", hung(THREE).quarrels(), 0);
    }

    private static void slides() {
        SwapTrophies x = hung(THREE);
        due(33, "reach()", x.reach(), 3);
        due(34, "far()", x.far(), 2);
        rowOf(x, 0, 3, 0, 2, 1);
        due(31, "slide to 0 2 1", x.slide(0), 1);
        due(32, "slides(0, 0)", x.slides(0, 0), 1);
        due(32, "slides(0, 1)", x.slides(0, 1), -1);
        due(32, "slides(0, -1)", x.slides(0, -1), -1);
        rowOf(x, 0, 0, 2, 0, 1);
        due(31, "slide to 2 0 1", x.slide(0), 2);
        due(32, "slides(0, 0)", x.slides(0, 0), 1);
        due(32, "slides(0, 1)", x.slides(0, 1), 0);
        rowOf(x, 0, 1, 1, 0, 2);
        due(31, "slide to 1 0 2", x.slide(0), -1);
        due(32, "slides(0, 0)", x.slides(0, 0), -1);
        rowOf(x, 0, 2, 0, 1, 2);
        due(31, "slide to how it hangs", x.slide(0), 0);
        due(32, "slides(0, 0)", x.slides(0, 0), -1);
        SwapTrophies y = hung("hall places 4; leap 5;");
        due(33, "reach() by leaps too wide", y.reach(), 1);
        due(34, "far() by leaps too wide", y.far(), 0);
    }

    private static void slidesByTwoLeaps() {
        SwapTrophies x = hung("hall places 3; leap 2; leap 1; leap 2;");
        due(33, "reach()", x.reach(), 6);
        due(34, "far()", x.far(), 3);
        rowOf(x, 3, 0, 1, 0, 2);
        due(31, "slide(3)", x.slide(3), 3);
        for (int i = 0; i < 3; i++) {
            due(32, "slides(3, " + i + "), the least of two ways", x.slides(3, i), i);
        }
        x.swap(0, 1);
        due(31, "slide(3) from 1 0 2", x.slide(3), 0);
        x.undo();
        due(31, "slide(3) from 0 1 2", x.slide(3), 3);
        SwapTrophies y = hung("hall places 7; leap 1; leap 2; leap 3; leap 4; leap 5; leap 6;");
        due(33, "reach() of all", y.reach(), 5040);
        due(34, "far() of all", y.far(), 9);
        rowOf(y, 0, 0, 1, 0, 3, 2, 5, 4, 6);
        due(31, "three rings beside the blank", y.slide(0), 9);
        SwapTrophies z = hung("hall places 7; leap 2;");
        due(33, "reach() of the even places", z.reach(), 4);
        due(34, "far() of the even places", z.far(), 3);
    }

    private static void fits() {
        // Behind one night of FIVE places 0 and 1 are changed; behind two places 2 and 4, too.
        SwapTrophies x = hung(FIVE);
        rowOf(x, 1, 2, 2, 2, 4);
        due(35, "one seen", x.fits(1), 24);
        due(36, "fit(1, 4)", x.fit(1, 4), 4);
        due(36, "fit(1, 0)", x.fit(1, 0), 0);
        due(36, "fit(1, 3)", x.fit(1, 3), 3);
        rowOf(x, 1, 2, 2, 2, 0);
        int[] least = {1, 2, 3, 4, 0};
        for (int place = 0; place < 5; place++) {
            due(36, "fit(1, " + place + ")", x.fit(1, place), least[place]);
        }
        x.night();
        x.swap(0, 4);
        due(35, "nothing done", x.fits(1), 24);
        due(36, "nothing done", x.fit(1, 4), 0);
        rowOf(x, 1, 2, 0, 0, 1, 0, 1, 0);
        due(35, "places 0 and 1 seen", x.fits(1), 6);
        due(36, "fit(1, 0)", x.fit(1, 0), 1);
        due(36, "fit(1, 1)", x.fit(1, 1), 0);
        rowOf(x, 1, 2, 0, 0, 1, 1, 1, 1);
        due(35, "one place seen twice", x.fits(1), 24);
        rowOf(x, 1, 2, 0, 0, 1, 1, 1, 2);
        due(35, "one place, two heads", x.fits(1), 0);
        due(36, "fit(1, 0)", x.fit(1, 0), -1);
        due(37, "ask(1)", x.ask(1), -1);
        due(38, "leaves(1)", x.leaves(1), 0);
        rowOf(x, 1, 2, 0, 0, 1, 1, 0, 1);
        due(35, "two places, one head", x.fits(1), 0);
        rowOf(x, 1, 3);
        due(35, "nothing seen", x.fits(1), 120);
        due(36, "nothing seen", x.fit(1, 4), 4);
        rowOf(x, 1, 1, 0, 999, 0);
        due(35, "night 999", x.fits(1), 24);
        rowOf(x, 1, 1, 0, 1000, 0);
        due(35, "night 1000", x.fits(1), -2);
        rowOf(x, 1, 1, 5, 0, 0);
        due(35, "no such place", x.fits(1), -2);
        rowOf(x, 1, 1, 0, 0, 5);
        due(35, "no such head", x.fits(1), -2);
        rowOf(x, 1, 1, 0, -1, 0);
        due(35, "no such night", x.fits(1), -2);
        rowOf(x, 1, 1, 0, 0, 0, 0);
        due(35, "not three each", x.fits(1), -2);
        due(36, "not three each", x.fit(1, 0), -2);
        due(37, "not three each", x.ask(1), -2);
        due(38, "not three each", x.leaves(1), -2);
    }

    private static void askAndLeaves() {
        SwapTrophies x = hung(FIVE);
        rowOf(x, 2, 0);
        due(37, "ask(2) of nothing seen", x.ask(2), 0);
        due(38, "leaves(2) of nothing seen", x.leaves(2), 24);
        rowOf(x, 2, 0, 0, 0, 1, 1, 0, 0);
        due(37, "ask(2)", x.ask(2), 2);
        due(38, "leaves(2)", x.leaves(2), 2);
        rowOf(x, 2, 0, 0, 0, 1, 1, 0, 0, 3, 0, 4);
        due(37, "ask(2) of two left", x.ask(2), 2);
        due(38, "leaves(2) of two left", x.leaves(2), 1);
        rowOf(x, 2, 0, 0, 0, 1, 1, 0, 0, 3, 0, 4, 2, 0, 2);
        due(35, "fits(2) of one left", x.fits(2), 1);
        due(36, "fit(2, 4) of one left", x.fit(2, 4), 3);
        due(37, "ask(2) of one left", x.ask(2), -1);
        due(38, "leaves(2) of one left", x.leaves(2), 1);
    }

    private static void changedSameSkipped() {
        SwapTrophies x = hung(FIVE);
        rowOf(x, 0, 0, 1, 0, 3, 4, 2);
        due(39, "changed(0) of how it hangs", x.changed(0), 0);
        due(40, "same(0) of how it hangs", x.same(0), 31);
        due(41, "skipped(0), the one law left out", x.skipped(0), 1);
        rowOf(x, 0, 0, 0, 1, 3, 4, 2);
        due(39, "changed(0)", x.changed(0), 1);
        due(40, "same(0)", x.same(0), 28);
        due(41, "skipped(0), none left out", x.skipped(0), 0);
        rowOf(x, 0, 0, 0, 1, 2, 3, 4);
        due(39, "changed(0) to the right row", x.changed(0), 3);
        due(40, "same(0) to the right row", x.same(0), 0);
        due(41, "skipped(0), none do", x.skipped(0), -1);
        SwapTrophies y = hung("hall places 3; law 0 with 1 each 1 from 0; law 0 with 1 each 1 from 0; law 0 with 1 each 1 from 0;"
                + "law 1 with 2 each 2 from 1;");
        rowOf(y, 0, 0, 1, 0, 2);
        due(41, "skipped(0), an odd number applies", y.skipped(0), 0);
        rowOf(y, 0, 0, 0, 1, 2);
        due(41, "skipped(0), one too many", y.skipped(0), 1);
        rowOf(y, 0, 0, 0, 2, 1);
        due(41, "skipped(0), the law does not apply yet", y.skipped(0), -1);
        y.night();
        rowOf(y, 0, 0, 0, 2, 1);
        due(41, "skipped(0) in the next night", y.skipped(0), 0);
        rowOf(y, 0, 0, 1, 2, 0);
        due(41, "skipped(0), one of three", y.skipped(0), 1);
    }

    private static void hangings() {
        SwapTrophies x = hung("hall places 3; apart 0 1;");
        due(42, "hangs()", x.hangs(), 2);
        due(43, "hang(0)", x.hang(0), 0);
        due(43, "hang(1)", x.hang(1), 2);
        due(43, "hang(2)", x.hang(2), 1);
        due(44, "parts()", x.parts(), 1);
        x.swap(1, 2);
        due(44, "parts() of a parted row", x.parts(), 0);
        SwapTrophies y = hung("hall places 3; apart 0 1; apart 1 2;");
        due(42, "hangs() of none", y.hangs(), 0);
        due(43, "hang(0) of none", y.hang(0), -1);
        due(44, "parts() of none", y.parts(), -1);
        SwapTrophies z = hung("hall places 7;");
        due(42, "hangs() without apart", z.hangs(), 5040);
        due(43, "hang(6) without apart", z.hang(6), 6);
        due(44, "parts() without apart", z.parts(), 0);
        // 1 and 2 alone may hang beside 0: 0 hangs between them, or at an end beside one.
        SwapTrophies w = hung("hall places 4; apart 0 3; apart 1 2; apart 2 3;");
        due(42, "hangs() of a chain", w.hangs(), 2);
        int[] least = {2, 0, 1, 3};
        for (int place = 0; place < 4; place++) {
            due(43, "hang(" + place + ") of a chain", w.hang(place), least[place]);
        }
        due(44, "parts() of a chain", w.parts(), 2);
    }

    private static void suiting() {
        SwapTrophies x = hung(FIVE);
        due(45, "best()", x.best(), 21);
        int[] least = {0, 1, 4, 2, 3};
        for (int place = 0; place < 5; place++) {
            due(46, "bests(" + place + ")", x.bests(place), least[place]);
        }
        due(47, "ways()", x.ways(), 2);
        due(48, "suit()", x.suit(), 0);
        due(49, "trade()", x.trade(), 1);
        x.swap(0, 1);
        due(48, "suit() behind a swap", x.suit(), 16);
        due(49, "trade() behind a swap", x.trade(), 23);
        x.swap(2, 3);
        due(48, "suit() of the best", x.suit(), 21);
        due(49, "trade() of the best", x.trade(), -1);
        SwapTrophies y = hung("hall places 7;");
        due(45, "best() of none that suits", y.best(), 0);
        due(46, "bests(6)", y.bests(6), 6);
        due(47, "ways() of none that suits", y.ways(), 5040);
        SwapTrophies z = hung("hall places 3; suit 0 1 5; suit 1 2 5;suit 0 0 3;suit 2 1 1; suit 2 2 1;");
        // 0 to 1 and 1 to 2: ten; no other row has as much.
        due(45, "best()", z.best(), 10);
        due(46, "bests(0)", z.bests(0), 2);
        due(47, "ways()", z.ways(), 1);
        due(48, "suit()", z.suit(), 4);
        due(49, "trade(), the most", z.trade(), 12);
        SwapTrophies w = hung("hall places 3; suit 0 2 5; suit 1 0 5;");
        due(49, "trade(), the first of several", w.trade(), 1);
    }

    private static void game() {
        SwapTrophies x = hung(THREE);
        int[] wins = {0, 1, 0};
        int[] takes = {-1, 0, -1};
        for (int place = 0; place < 3; place++) {
            due(50, "wins(" + place + ")", x.wins(place), wins[place]);
            due(51, "takes(" + place + ")", x.takes(place), takes[place]);
        }
        SwapTrophies y = hung("hall places 2;");
        due(50, "wins(0) of two", y.wins(0), 1);
        due(51, "takes(0) of two", y.takes(0), 1);
        due(51, "takes(1) of two", y.takes(1), 0);
        // In a row of four, from place 1: to 0 and the other is stuck; from 0 all go 1, 2, 3.
        SwapTrophies z = hung("hall places 4;");
        due(50, "wins(0) of four", z.wins(0), 1);
        due(51, "takes(0) of four", z.takes(0), 1);
        due(50, "wins(2) of four", z.wins(2), 1);
        due(51, "takes(2) of four", z.takes(2), 3);
        SwapTrophies w = hung("hall places 5; leap 4;");
        due(50, "wins(2), no leap", w.wins(2), 0);
        due(51, "takes(2), no leap", w.takes(2), -1);
        due(51, "takes(4)", w.takes(4), 0);
        due(50, "wins(0) of all leaps, seven", hung("hall places 7;leap 1;leap 2;leap 3;leap 4;leap 5;leap 6;").wins(0), 0);
        due(50, "wins(0) of all leaps, six", hung("hall places 6;leap 1;leap 2;leap 3;leap 4;leap 5;").wins(0), 1);
    }

    private static void lots() {
        SwapTrophies x = hung(THREE);
        long[][] two = {{1, 4}, {1, 4}, {1, 2}};
        for (int place = 0; place < 3; place++) {
            for (int what = 0; what < 2; what++) {
                due(52, "chance(" + place + ", 2, " + what + ")", x.chance(place, 2, what), two[place][what]);
            }
        }
        due(52, "chance(2, 0, 0)", x.chance(2, 0, 0), 1);
        due(52, "chance(2, 0, 1)", x.chance(2, 0, 1), 1);
        due(52, "chance(0, 1, 0)", x.chance(0, 1, 0), 0);
        due(52, "chance(0, 1, 1)", x.chance(0, 1, 1), 1);
        due(53, "likely(0)", x.likely(0), 2);
        due(53, "likely(1), the first of several", x.likely(1), 1);
        due(53, "likely(2)", x.likely(2), 2);
        SwapTrophies y = hung("hall places 2;");
        due(52, "of two it always goes", y.chance(0, 11, 0), 1);
        due(53, "likely(12) of two", y.likely(12), 1);
        SwapTrophies z = hung("hall places 7;");
        due(52, "six leaps in twelve, below 6 to the 12th", z.chance(0, 6, 1), 46656);
        due(52, "six leaps in six", z.chance(0, 6, 0), 1);
        x.swap(0, 2);
        due(53, "likely(0) behind a swap", x.likely(0), 0);
    }

    private static void actsAndUndo() {
        SwapTrophies x = hung(FIVE);
        due(54, "swap(0, 1)", x.swap(0, 1), 2);
        due(54, "swap(4, 2)", x.swap(4, 2), 3);
        due(54, "at(2)", x.at(2), 2);
        due(58, "swaps are no nights", x.nights(), 0);
        due(55, "night()", x.night(), 1);
        due(55, "night()", x.night(), 0);
        due(58, "nights()", x.nights(), 2);
        due(56, "undo()", x.undo(), 3);
        due(58, "nights() behind undo", x.nights(), 1);
        due(9, "at(4)", x.at(4), 3);
        due(56, "undo()", x.undo(), 2);
        due(13, "rights()", x.rights(), 7);
        due(56, "undo()", x.undo(), 1);
        due(57, "anew()", x.anew(), 1);
        due(57, "anew() of none", x.anew(), 0);
        due(56, "undo() of none", x.undo(), -5);
        due(9, "at(0)", x.at(0), 1);
        for (int i = 0; i < 40; i++) {
            due(55, "act " + i, i % 2 == 0 ? x.night() >= 0 ? 0 : 1 : x.swap(0, 2) >= 0 ? 0 : 1, 0);
        }
        due(54, "a 41st swap", x.swap(0, 1), -5);
        due(55, "a 41st night", x.night(), -5);
        due(62, "acts", x.count(3), 40);
        due(58, "nights", x.nights(), 20);
        due(56, "undo()", x.undo(), 39);
        due(55, "night() again", x.night() >= 0 ? 0 : 1, 0);
        for (int i = 39; i >= 0; i--) {
            due(56, "undo()", x.undo(), i);
        }
        int[] row = {1, 0, 3, 4, 2};
        for (int place = 0; place < 5; place++) {
            due(56, "all as it was", x.at(place), row[place]);
        }
        due(56, "nights", x.nights(), 0);
        x.night();
        x.swap(1, 3);
        x.night();
        due(57, "anew()", x.anew(), 3);
        due(57, "nights", x.nights(), 0);
        due(57, "at(0)", x.at(0), 1);
        due(57, "acts", x.count(3), 0);
        // Laws that do not commute: they are taken back from the last one on.
        SwapTrophies y = hung("hall places 3; law 0 with 1 each 1 from 0; law 1 with 2 each 1 from 0;");
        due(55, "night()", y.night(), 0);
        due(56, "undo()", y.undo(), 0);
        due(56, "rights()", y.rights(), 7);
    }

    private static void drawnNights() {
        // From seed 5: 1222621274, its draw 18655; from seed 6 (1103515245 * 6 + 12345): 178652871, 2726.
        SwapTrophies x = hung(THREE);
        due(59, "drawn(5, 0, 1)", x.drawn(5, 0, 1), 1);
        due(59, "drawn(5, 1, 0)", x.drawn(5, 1, 0), 0);
        due(59, "drawn(5, 1, 1)", x.drawn(5, 1, 1), 2);
        due(59, "drawn(5, 1, 2)", x.drawn(5, 1, 2), 1);
        due(59, "drawn(6, 1, 0)", x.drawn(6, 1, 0), 1);
        due(59, "drawn(6, 1, 1)", x.drawn(6, 1, 1), 0);
        due(60, "luck(5, 1, 1, 0)", x.luck(5, 1, 1, 0), 1);
        due(60, "luck(5, 2, 1, 0)", x.luck(5, 2, 1, 0), 1);
        due(60, "luck(6, 1, 1, 0)", x.luck(6, 1, 1, 0), 0);
        due(60, "luck(6, 1, 1, 2)", x.luck(6, 1, 1, 2), 1);
        due(60, "luck(5, 20, 0, 2)", x.luck(5, 20, 0, 2), 20);
        // From seed 0: 12345, its draw 0.
        due(59, "drawn(0, 1, 0)", x.drawn(0, 1, 0), 1);
        due(60, "luck(0, 1, 1, 2)", x.luck(0, 1, 1, 2), 1);
        x.swap(0, 1);
        due(59, "drawn(5, 1, 0) from now on", x.drawn(5, 1, 0), 2);
        due(59, "the greatest seed", x.drawn(2_000_000_000, 60, 0) >= 0 ? 0 : 1, 0);
        SwapTrophies y = hung("hall places 2;");
        due(59, "of two they always change", y.drawn(7, 59, 0), 1);
        due(59, "of two they always change", y.drawn(7, 60, 0), 0);
        due(60, "luck(2000000000, 20, 60, 0)", y.luck(2_000_000_000, 20, 60, 0), 20);
    }

    private static void tells() {
        SwapTrophies x = hung(FIVE);
        due(61, "tell(0, 0, 4)", x.tell(0, 0, 4), 9);
        due(61, "tell(0, 0, 99)", x.tell(0, 0, 99), 4);
        due(61, "tell(2, 1, 0)", x.tell(2, 1, 0), 0);
        due(7, "suits(0, 0)", x.suits(0, 0), 99);
        due(45, "best()", x.best(), 111);
        x.swap(0, 1);
        due(61, "tell() behind an act", x.tell(0, 0, 1), -5);
        x.undo();
        due(61, "tell() behind undo", x.tell(0, 0, 1), 99);
        x.anew();
        due(61, "anew() leaves what is told", x.suits(0, 0), 1);
    }

    private static void counts() {
        SwapTrophies x = hung(FIVE);
        x.feed(0, 0, 0, 0, 0);
        x.row(3, 1, 0);
        x.row(0, 1, 60);
        x.row(0, 2, 60);
        x.night();
        int[] counts = {5, 2, 2, 1, 11, 20, 2};
        for (int what = 0; what < counts.length; what++) {
            due(62, "count(" + what + ")", x.count(what), counts[what]);
        }
        due(62, "count(7)", x.count(7), -1);
        due(62, "count(-1)", x.count(-1), -1);
    }

    private static void images() {
        SwapTrophies x = hung(FIVE);
        x.tell(3, 3, 33);
        x.night();
        x.swap(0, 4);
        due(63, "image(2)", x.image(2), 0);
        x.anew();
        x.tell(3, 3, 34);
        put(x, THREE);
        x.hall();
        x.row(1, 1, 1);
        x.feed(0, 0, 0, 0, 0);
        due(64, "back(1)", x.back(1), -6);
        due(64, "back(2)", x.back(2), 0);
        due(64, "places", x.count(0), 5);
        due(64, "lines", x.count(4), 11);
        due(64, "acts", x.count(3), 2);
        due(64, "nights", x.nights(), 1);
        due(64, "suits(3, 3)", x.suits(3, 3), 33);
        due(64, "at(0)", x.at(0), 2);
        due(64, "tape and slots stay", x.count(5) + x.count(6), 21);
        due(64, "undo()", x.undo(), 1);
        due(64, "at(0)", x.at(0), 0);
        due(64, "undo()", x.undo(), 0);
        due(64, "at(0)", x.at(0), 1);
        due(64, "back(2) once more", x.back(2), 0);
        due(64, "acts", x.count(3), 2);
        x.end(0);
        due(63, "no hall", x.hall(), 0);
        due(63, "image(0) of no hall", x.image(0), 0);
        x.back(2);
        due(64, "back(0) to no hall", x.back(0), 0);
        due(64, "no hall", x.rights(), -2);
        due(63, "image(3)", x.image(3), -2);
        due(63, "image(-1)", x.image(-1), -2);
        due(64, "back(3)", x.back(3), -2);
        due(64, "back(-1)", x.back(-1), -2);
    }

    private static void rows() {
        SwapTrophies x = hung("hall places 3; hang 2 1 0;");
        due(65, "row(4, 0, 1)", x.row(4, 0, 1), -2);
        due(65, "row(-1, 0, 1)", x.row(-1, 0, 1), -2);
        due(65, "row(0, 4, 1)", x.row(0, 4, 1), -2);
        due(65, "row(0, -1, 1)", x.row(0, -1, 1), -2);
        due(65, "row(0, 0, 61)", x.row(0, 0, 61), -2);
        due(65, "row(4, 0, -1)", x.row(4, 0, -1), -2);
        due(65, "row(0, 0, -1)", x.row(0, 0, -1), -3);
        due(65, "the slot stays", x.count(6), 0);
        due(65, "row(0, 0, 60)", x.row(0, 0, 60), 0);
        due(66, "write(0, 59, 1)", x.write(0, 59, 1), 0);
        due(66, "write(0, 60, 1)", x.write(0, 60, 1), -7);
        due(66, "write(0, -1, 1)", x.write(0, -1, 1), -7);
        due(66, "write(1, 0, 1)", x.write(1, 0, 1), -6);
        due(66, "write(1, -1, 1)", x.write(1, -1, 1), -6);
        due(66, "write(4, 0, 1)", x.write(4, 0, 1), -2);
        due(66, "write(-1, 0, 1)", x.write(-1, 0, 1), -2);
        for (int width = 0; width < 4; width++) {
            long over = width < 3 ? 1L << (8 << width) : 0;
            rowOf(x, 0, width, over + 2, 1 - over, over * 3);
            due(66, "cut to width " + width, x.same(0), 7);
            if (width > 0) {
                rowOf(x, 0, width, 2, 1, 256);
                due(66, "not cut more than to width " + width, x.same(0), -2);
            }
            rowOf(x, 0, width, 2, 1, -1);
            due(66, "below 0", x.same(0), -2);
        }
        rowOf(x, 0, 0, 0, 200, 0);
        due(66, "a byte bears a sign", x.fits(0), -2);
        rowOf(x, 0, 1, 0, 200, 0);
        due(66, "two bytes hold 200", x.fits(0), 2);
        rowOf(x, 0, 1, 1, 1, 0);
        x.row(0, 1, 3);
        due(65, "all 0 in place of another", x.fits(0), 2);
        pastes();
    }

    private static void pastes() {
        SwapTrophies x = hung("hall places 4; hang 2 1 0 3;");
        rowOf(x, 0, 0, 2, 1, 0, 3);
        rowOf(x, 1, 0, 0, 0, 0, 0);
        rowOf(x, 2, 1, 2, 1, 0, 3);
        due(67, "paste(0, 1, 1, 1, 3)", x.paste(0, 1, 1, 1, 3), 0);
        due(67, "half pasted", x.same(1), -2);
        due(67, "paste(0, 0, 1, 0, 1)", x.paste(0, 0, 1, 0, 1), 0);
        due(67, "all pasted", x.same(1), 15);
        due(67, "the one pasted from stays", x.same(0), 15);
        due(67, "its own, as they were", x.paste(0, 0, 0, 1, 3), 0);
        x.write(0, 0, 3);
        due(67, "3 2 1 0", x.changed(0), 3);
        due(67, "3 2 1 0", x.same(0), 0);
        due(67, "its own, to the left", x.paste(0, 1, 0, 0, 3), 0);
        x.write(0, 3, 3);
        due(67, "2 1 0 3", x.same(0), 15);
        due(67, "widths", x.paste(0, 0, 2, 0, 1), -8);
        due(67, "widths ahead of bounds", x.paste(0, 9, 2, -1, -1), -8);
        due(67, "nothing", x.paste(0, 0, 3, 0, 1), -6);
        due(67, "nothing", x.paste(3, 0, 0, 0, 1), -6);
        due(67, "no such slot", x.paste(3, 0, 4, 0, 1), -2);
        due(67, "no such slot", x.paste(-1, 0, 3, 0, 1), -2);
        due(67, "beyond", x.paste(0, 1, 1, 0, 4), -7);
        due(67, "beyond", x.paste(0, 0, 1, 1, 4), -7);
        due(67, "beyond", x.paste(0, 5, 1, 0, 0), -7);
        due(67, "beyond", x.paste(0, 0, 1, 5, 0), -7);
        due(67, "below 0", x.paste(0, -1, 1, 0, 1), -7);
        due(67, "below 0", x.paste(0, 0, 1, -1, 1), -7);
        due(67, "below 0", x.paste(0, 0, 1, 0, -1), -7);
        due(67, "sums that wrap around", x.paste(0, Integer.MAX_VALUE, 1, Integer.MAX_VALUE, Integer.MAX_VALUE), -7);
        due(67, "sums that wrap around", x.paste(0, 1, 1, 1, Integer.MAX_VALUE), -7);
        due(67, "nothing happened", x.same(1), 15);
        due(67, "none at the end", x.paste(0, 4, 1, 4, 0), 0);
    }

    private static void wrongInputs() {
        SwapTrophies x = hung(FIVE);
        int[] none = {-1, 5, Integer.MIN_VALUE, Integer.MAX_VALUE};
        for (int k : none) {
            due(7, "suits", x.suits(k, 0), -2);
            due(7, "suits", x.suits(0, k), -2);
            due(8, "apart", x.apart(k), -2);
            due(9, "at", x.at(k), -2);
            due(10, "where", x.where(k), -2);
            due(11, "later", x.later(k, 0), -2);
            due(16, "comes", x.comes(k, 0), -2);
            due(16, "comes", x.comes(0, k), -2);
            due(17, "meet", x.meet(k, 0), -2);
            due(17, "meet", x.meet(0, k), -2);
            due(24, "ring", x.ring(k), -2);
            due(25, "away", x.away(k), -2);
            due(27, "beside", x.beside(k), -2);
            due(30, "spells", x.spells(k, 1), -2);
            due(43, "hang", x.hang(k), -2);
            due(46, "bests", x.bests(k), -2);
            due(50, "wins", x.wins(k), -2);
            due(51, "takes", x.takes(k), -2);
            due(52, "chance", x.chance(k, 0, 0), -2);
            due(54, "swap", x.swap(k, 0), -2);
            due(54, "swap", x.swap(0, k), -2);
            due(59, "drawn", x.drawn(0, 0, k), -2);
            due(60, "luck", x.luck(0, 1, 0, k), -2);
            due(61, "tell", x.tell(k, 0, 0), -2);
            due(61, "tell", x.tell(0, k, 0), -2);
        }
        due(6, "law(2, 0)", x.law(2, 0), -2);
        due(6, "law(-1, 0)", x.law(-1, 0), -2);
        due(6, "law(0, 4)", x.law(0, 4), -2);
        due(6, "law(0, -1)", x.law(0, -1), -2);
        due(11, "later", x.later(0, -1), -2);
        due(11, "later", x.later(0, 1_000_000_001), -2);
        due(12, "right", x.right(-1), -2);
        due(12, "right", x.right(1_000_000_001), -2);
        due(17, "meet one twice", x.meet(1, 1), -2);
        due(18, "tonight", x.tonight(-1), -2);
        due(18, "tonight", x.tonight(1_000_000_001), -2);
        due(29, "finest", x.finest(-1), -2);
        due(29, "finest", x.finest(5001), -2);
        due(30, "spells", x.spells(0, -1), -2);
        due(30, "spells", x.spells(0, 5001), -2);
        due(52, "chance", x.chance(0, -1, 0), -2);
        due(52, "chance", x.chance(0, 13, 0), -2);
        due(52, "chance", x.chance(0, 0, 2), -2);
        due(52, "chance", x.chance(0, 0, -1), -2);
        due(53, "likely", x.likely(-1), -2);
        due(53, "likely", x.likely(13), -2);
        due(54, "swap one twice", x.swap(1, 1), -2);
        due(59, "drawn", x.drawn(-1, 0, 0), -2);
        due(59, "drawn", x.drawn(2_000_000_001, 0, 0), -2);
        due(59, "drawn", x.drawn(0, -1, 0), -2);
        due(59, "drawn", x.drawn(0, 61, 0), -2);
        due(60, "luck", x.luck(-1, 1, 0, 0), -2);
        due(60, "luck", x.luck(2_000_000_001, 1, 0, 0), -2);
        due(60, "luck", x.luck(0, 0, 0, 0), -2);
        due(60, "luck", x.luck(0, 21, 0, 0), -2);
        due(60, "luck", x.luck(0, 1, -1, 0), -2);
        due(60, "luck", x.luck(0, 1, 61, 0), -2);
        due(61, "tell", x.tell(0, 0, -1), -2);
        due(61, "tell", x.tell(0, 0, 100), -2);
        due(54, "nothing was done", x.count(3), 0);
        due(61, "nothing was told", x.suits(0, 0), 9);
    }

    private static void noHall() {
        SwapTrophies x = new SwapTrophies();
        due(54, "swap(0, 1)", x.swap(0, 1), -2);
        due(55, "night()", x.night(), -2);
        due(56, "undo()", x.undo(), -2);
        due(57, "anew()", x.anew(), -2);
        due(58, "nights()", x.nights(), -2);
        due(59, "drawn(0, 0, 0)", x.drawn(0, 0, 0), -2);
        due(60, "luck(0, 1, 0, 0)", x.luck(0, 1, 0, 0), -2);
        due(61, "tell(0, 0, 0)", x.tell(0, 0, 0), -2);
        due(52, "chance(0, 0, 0)", x.chance(0, 0, 0), -2);
        due(53, "likely(0)", x.likely(0), -2);
        due(33, "reach()", x.reach(), -2);
        due(34, "far()", x.far(), -2);
        due(6, "law(0, 0)", x.law(0, 0), -2);
    }

    private static void refusalsInOrder() {
        SwapTrophies x = hung(THREE);
        x.row(1, 0, 2);
        rowOf(x, 2, 0, 0, 1, 1);
        rowOf(x, 3, 0, 0, 1, 3);
        int[] slots = {0, 1, 2, 3, 4, -1};
        int[] answers = {-6, -2, -2, -2, -2, -2};
        for (int i = 0; i < slots.length; i++) {
            due(31, "slide(" + slots[i] + ")", x.slide(slots[i]), answers[i]);
            due(32, "slides(" + slots[i] + ", 0)", x.slides(slots[i], 0), answers[i]);
            due(39, "changed(" + slots[i] + ")", x.changed(slots[i]), answers[i]);
            due(40, "same(" + slots[i] + ")", x.same(slots[i]), answers[i]);
            due(41, "skipped(" + slots[i] + ")", x.skipped(slots[i]), answers[i]);
        }
        due(35, "fits(0)", x.fits(0), -6);
        due(36, "fit(0, 0)", x.fit(0, 0), -6);
        due(36, "fit(0, 3)", x.fit(0, 3), -2);
        due(37, "ask(0)", x.ask(0), -6);
        due(38, "leaves(0)", x.leaves(0), -6);
        due(35, "fits(4)", x.fits(4), -2);
        due(36, "fit(4, 0)", x.fit(4, 0), -2);
        due(37, "ask(-1)", x.ask(-1), -2);
        due(38, "leaves(4)", x.leaves(4), -2);
    }
}
