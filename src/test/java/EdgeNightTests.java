/** The boundary cases of Terms II and IV and of promises 9 (at) to 30 (spells), sentence by sentence. */
public final class EdgeNightTests extends Kit {
    private static final String THREE = "hall places 3;";
    private static final String SEVEN = "hall places 7;";
    private static final int BILLION = 1_000_000_000;
    private static final int[] NEVER = {-1, Integer.MIN_VALUE, Integer.MAX_VALUE};

    // Each night all heads go one place to the left, the first to the end: place p shows (p + n) modulo 7.
    private static final String TURNING = SEVEN + "law 0 with 1 each 1 from 0;law 1 with 2 each 1 from 0;"
            + "law 2 with 3 each 1 from 0;law 3 with 4 each 1 from 0;law 4 with 5 each 1 from 0;law 5 with 6 each 1 from 0;";
    // It comes round in 720 nights, the most that any hall needs (worked out night by night elsewhere).
    private static final String LONGEST = SEVEN + "law 0 with 3 each 4 from 2;law 6 with 1 each 5 from 2;"
            + "law 1 with 4 each 2 from 1;law 0 with 2 each 5 from 0;law 1 with 3 each 6 from 1;law 5 with 1 each 1 from 0;";

    public static void main(String[] args) {
        nightsFromNought();
        placesBesideEachOther();
        atAndWhere();
        laterBounds();
        rightBounds();
        rightsEdges();
        wholeEdges();
        roundEdges();
        comesEdges();
        meetEdges();
        tonightBounds();
        farFromLateNights();
        oddSwapsSteps();
        ringEdges();
        stayEdges();
        awayAndLost();
        besideEdges();
        quarrelEdges();
        finestEdges();
        spellsEdges();
        nothingDone();
        finish("the nights' edges hold");
    }

    /** "NIGHTS are numbered from 0 on. ... each LAW (by numbers) applies if its number less from is a multiple of each". */
    private static void nightsFromNought() {
        for (int each = 1; each <= 6; each++) {
            for (int from = 0; from < each; from++) {
                SwapTrophies x = hung("hall places 2; law 0 with 1 each " + each + " from " + from + ";");
                for (int n = 0; n <= 13; n++) {
                    boolean applies = n >= from && (n - from) % each == 0;
                    due(18, "each " + each + " from " + from + " in night " + n, x.tonight(n), applies ? 1 : 0);
                }
                for (int n = 0; n < 13; n++) {
                    int was = x.at(0);
                    x.night();
                    boolean applied = n >= from && (n - from) % each == 0;
                    due(55, "each " + each + " from " + from + " in night " + n, x.at(0) == was ? 0 : 1, applied ? 1 : 0);
                }
            }
        }
        // By numbers: the first law leads the head on to where the second one takes it up.
        SwapTrophies y = hung(THREE + "law 0 with 1 each 1 from 0; law 1 with 2 each 1 from 0;");
        due(11, "head 0 goes all the way", y.later(2, 1), 0);
        SwapTrophies z = hung(THREE + "law 1 with 2 each 1 from 0; law 0 with 1 each 1 from 0;");
        due(11, "head 0 goes one place", z.later(1, 1), 0);
        due(11, "head 2 goes all the way", z.later(0, 1), 2);
    }

    /** "PLACES beside each other: those whose numbers are unlike by 1": no row closes to a ring. */
    private static void placesBesideEachOther() {
        for (int places = 3; places <= 7; places++) {
            int last = places - 1;
            SwapTrophies x = hung("hall places " + places + "; apart 0 " + last + ";");
            due(27, "beside the first", x.beside(0), 2);
            due(27, "beside the last", x.beside(last), 1 << last - 1);
            due(28, "both ends", x.quarrels(), 0);
            due(17, "both ends", x.meet(0, last), -1);
        }
        SwapTrophies two = hung("hall places 2; apart 1 0;");
        due(27, "of two", two.beside(0), 2);
        due(27, "of two", two.beside(1), 1);
        due(28, "of two", two.quarrels(), 1);
        due(17, "of two", two.meet(0, 1), 0);
    }

    /** Promises 9, 10: "-2: there is none such". */
    private static void atAndWhere() {
        for (int places = 2; places <= 7; places++) {
            SwapTrophies x = hung("hall places " + places + ";");
            due(9, "the last place", x.at(places - 1), places - 1);
            due(10, "the last head", x.where(places - 1), places - 1);
            due(9, "no such place", x.at(places), -2);
            due(10, "no such head", x.where(places), -2);
            for (int k : NEVER) {
                due(9, "no such place", x.at(k), -2);
                due(10, "no such head", x.where(k), -2);
            }
        }
    }

    /** Promise 11: "n (0 .. 1,000,000,000) NIGHTS later ... -2: there are none such". */
    private static void laterBounds() {
        SwapTrophies x = hung(TURNING);
        for (int place = 0; place < 7; place++) {
            due(11, "0 nights", x.later(place, 0), place);
            due(11, "1 night", x.later(place, 1), (place + 1) % 7);
            due(11, "the most nights", x.later(place, BILLION), (place + BILLION) % 7);
            due(11, "the most nights but one", x.later(place, BILLION - 1), (place + BILLION - 1) % 7);
        }
        for (int n = 55; n <= 65; n++) {
            due(11, n + " nights", x.later(3, n), (3 + n) % 7);
        }
        due(11, "a night too many", x.later(0, BILLION + 1), -2);
        due(11, "no such place", x.later(7, 0), -2);
        for (int k : NEVER) {
            due(11, "no such n", x.later(0, k), -2);
            due(11, "no such place", x.later(k, 0), -2);
        }
    }

    /** Promise 12: "n (0 .. 1,000,000,000) ... -2: there is no such n, no HALL". */
    private static void rightBounds() {
        SwapTrophies x = hung(TURNING);
        due(12, "all now", x.right(0), 7);
        due(12, "none next night", x.right(1), 0);
        due(12, "all again", x.right(7), 7);
        due(12, "the most nights", x.right(BILLION), BILLION % 7 == 0 ? 7 : 0);
        due(12, "the last turn", x.right(BILLION / 7 * 7), 7);
        due(12, "a night too many", x.right(BILLION + 1), -2);
        for (int k : NEVER) {
            due(12, "no such n", x.right(k), -2);
        }
    }

    /** Promise 13. */
    private static void rightsEdges() {
        for (int places = 2; places <= 7; places++) {
            due(13, "all", hung("hall places " + places + ";").rights(), (1 << places) - 1);
        }
        due(13, "none", hung("hall places 2; hang 1 0;").rights(), 0);
        due(13, "the last alone", hung(THREE + "hang 1 0 2;").rights(), 4);
        due(13, "the first alone", hung(THREE + "hang 0 2 1;").rights(), 1);
    }

    /** Promise 14: "The first n (0 .. 5,000) by which all do. NONE: none". */
    private static void wholeEdges() {
        due(14, "now", hung(TURNING).whole(), 0);
        due(14, "now, though never again", hung(THREE).whole(), 0);
        due(14, "never", hung(THREE + "hang 1 0 2;").whole(), -1);
        due(14, "never by these laws", hung(THREE + "hang 1 0 2; law 0 with 2 each 1 from 0;").whole(), -1);
        due(14, "the next night", hung("hall places 2; hang 1 0; law 1 with 0 each 1 from 0;").whole(), 1);
        due(14, "six nights", hung("hall places 2; hang 1 0; law 1 with 0 each 6 from 5;").whole(), 6);
        SwapTrophies x = hung(LONGEST);
        x.night();
        due(14, "the last night of the longest turn", x.whole(), 719);
        due(11, "a night too few", x.right(718) == 7 ? 1 : 0, 0);
        due(11, "all right", x.right(719), 7);
    }

    /** Promise 15: "The first n (1 .. 5,000) by which all hang as now": now itself is none. */
    private static void roundEdges() {
        due(15, "nothing changes", hung(THREE).round(), 1);
        due(15, "nothing changes, not right", hung(THREE + "hang 2 0 1;").round(), 1);
        due(15, "the first night changes nothing", hung("hall places 2; law 0 with 1 each 6 from 5;").round(), 1);
        due(15, "two nights", hung("hall places 2; law 0 with 1 each 1 from 0;").round(), 2);
        due(15, "a law each 6", hung("hall places 2; law 0 with 1 each 6 from 0;").round(), 7);
        due(15, "seven", hung(TURNING).round(), 7);
        due(15, "the longest", hung(LONGEST).round(), 720);
    }

    /** Promise 16: "The first n (0 .. 5,000) ... NONE: none; -2: there are none such". */
    private static void comesEdges() {
        SwapTrophies x = hung(TURNING);
        due(16, "now", x.comes(6, 6), 0);
        due(16, "the last night of a turn", x.comes(0, 1), 6);
        due(16, "never", hung(THREE).comes(0, 2), -1);
        due(16, "no such head", x.comes(7, 0), -2);
        due(16, "no such place", x.comes(0, 7), -2);
        for (int k : NEVER) {
            due(16, "no such head", x.comes(k, 0), -2);
            due(16, "no such place", x.comes(0, k), -2);
        }
        SwapTrophies y = hung(SEVEN + "law 3 with 6 each 5 from 0;law 3 with 5 each 6 from 1;law 5 with 0 each 4 from 2;"
                + "law 5 with 4 each 6 from 5;law 1 with 3 each 4 from 2;law 2 with 4 each 6 from 1;");
        due(16, "late", y.comes(0, 6), 231);
    }

    /** Promise 17: "NONE: none; -2: there are none such, one twice". */
    private static void meetEdges() {
        SwapTrophies x = hung(TURNING);
        due(17, "now", x.meet(5, 6), 0);
        due(17, "now, told the other way", x.meet(6, 5), 0);
        due(17, "head 0 comes behind head 6", x.meet(0, 6), 1);
        due(17, "never", x.meet(0, 2), -1);
        for (int head = 0; head < 7; head++) {
            due(17, "one twice", x.meet(head, head), -2);
        }
        due(17, "no such head", x.meet(7, 0), -2);
        due(17, "no such head", x.meet(0, 7), -2);
        due(17, "no such head, twice", x.meet(7, 7), -2);
        for (int k : NEVER) {
            due(17, "no such head", x.meet(k, 0), -2);
            due(17, "no such head", x.meet(0, k), -2);
        }
        SwapTrophies y = hung(SEVEN + "law 6 with 5 each 1 from 0;law 5 with 4 each 6 from 1;law 3 with 2 each 4 from 3;"
                + "law 6 with 5 each 4 from 1;law 1 with 2 each 3 from 2;law 0 with 2 each 5 from 1;");
        due(17, "late", y.meet(0, 6), 182);
        due(17, "late, told the other way", y.meet(6, 0), 182);
    }

    /** Promise 18: "n (0 .. 1,000,000,000) NIGHTS from now (0: the next one), as bits. -2: there is no such n, no HALL". */
    private static void tonightBounds() {
        SwapTrophies x = hung(TURNING);
        due(18, "all six", x.tonight(0), 63);
        due(18, "all six, at last", x.tonight(BILLION), 63);
        due(18, "a night too many", x.tonight(BILLION + 1), -2);
        for (int k : NEVER) {
            due(18, "no such n", x.tonight(k), -2);
        }
        due(18, "no laws", hung(THREE).tonight(0), 0);
        StringBuilder text = new StringBuilder(THREE);
        for (int from = 0; from < 6; from++) {
            text.append("law 0 with 1 each 6 from ").append(from).append(';');
        }
        SwapTrophies y = hung(text.toString());
        for (int n = 0; n <= 6; n++) {
            due(18, "one a night", y.tonight(n), 1 << n % 6);
        }
        due(18, "the most nights", y.tonight(BILLION), 1 << BILLION % 6);
    }

    /** Promises 11, 12, 18 behind 40 NIGHTS: what they count from is now. */
    private static void farFromLateNights() {
        SwapTrophies x = hung(TURNING);
        SwapTrophies y = hung("hall places 2; law 0 with 1 each 6 from 5; law 0 with 1 each 5 from 4;");
        for (int i = 0; i < 40; i++) {
            x.night();
            y.night();
        }
        due(11, "0 nights", x.later(0, 0), 40 % 7);
        due(11, "the most nights", x.later(0, BILLION), (40 + BILLION) % 7);
        due(12, "back to right", x.right(2), 7);
        due(14, "back to right", x.whole(), 2);
        due(15, "a turn", x.round(), 7);
        for (int n = 0; n < 40; n++) {
            int bits = ((40 + n) % 6 == 5 ? 1 : 0) + ((40 + n) % 5 == 4 ? 2 : 0);
            due(18, "night " + (40 + n), y.tonight(n), bits);
        }
        for (int n = BILLION - 35; n <= BILLION; n++) {
            int bits = ((40 + n) % 6 == 5 ? 1 : 0) + ((40 + n) % 5 == 4 ? 2 : 0);
            due(18, "night " + (40 + n), y.tonight(n), bits);
        }
    }

    /** Promises 19 to 21: the right row, two heads, a row turned about. */
    private static void oddSwapsSteps() {
        for (int places = 2; places <= 7; places++) {
            SwapTrophies x = hung("hall places " + places + ";");
            due(19, "even: none", x.odd(), 0);
            due(20, "none", x.swaps(), 0);
            due(21, "none", x.steps(), 0);
            // The ends changed over: one swap, but many steps.
            x.swap(0, places - 1);
            due(19, "odd: one", x.odd(), 1);
            due(20, "one", x.swaps(), 1);
            due(21, "all the way there, and back but one", x.steps(), 2 * (places - 1) - 1);
        }
        SwapTrophies y = hung(SEVEN + "hang 6 5 4 3 2 1 0;");
        due(21, "the most steps", y.steps(), 21);
        due(20, "the most swaps", hung(SEVEN + "hang 6 0 1 2 3 4 5;").swaps(), 6);
        due(19, "even: six", hung(SEVEN + "hang 6 0 1 2 3 4 5;").odd(), 0);
        due(19, "odd: five", hung("hall places 6; hang 5 0 1 2 3 4;").odd(), 1);
    }

    /** Promises 22, 24: "two or more each"; "(itself alone, if it hangs RIGHT)"; "-2: there is none such". */
    private static void ringEdges() {
        SwapTrophies x = hung(SEVEN);
        due(22, "none", x.rings(), 0);
        for (int head = 0; head < 7; head++) {
            due(24, "itself alone", x.ring(head), 1 << head);
        }
        due(22, "one of two", hung("hall places 2; hang 1 0;").rings(), 1);
        due(22, "the most", hung(SEVEN + "hang 1 0 3 2 5 4 6;").rings(), 3);
        due(22, "one of all", hung(SEVEN + "hang 6 0 1 2 3 4 5;").rings(), 1);
        due(24, "all", hung(SEVEN + "hang 6 0 1 2 3 4 5;").ring(0), 127);
        due(24, "the last two", hung(SEVEN + "hang 0 1 2 3 4 6 5;").ring(6), 96);
        due(24, "no such head", x.ring(7), -2);
        for (int k : NEVER) {
            due(24, "no such head", x.ring(k), -2);
        }
    }

    /** Promise 23. */
    private static void stayEdges() {
        due(23, "all", hung(SEVEN).stay(), 7);
        due(23, "one, of a row turned about", hung(SEVEN + "hang 6 5 4 3 2 1 0;").stay(), 1);
        due(23, "all but the last one, hung first", hung(SEVEN + "hang 6 0 1 2 3 4 5;").stay(), 6);
        due(23, "all but the first one, hung last", hung(SEVEN + "hang 1 2 3 4 5 6 0;").stay(), 6);
        due(23, "of two, one", hung("hall places 2; hang 1 0;").stay(), 1);
        due(23, "not one after the other", hung(SEVEN + "hang 3 0 6 1 5 2 4;").stay(), 4);
    }

    /** Promises 25, 26: "the first of several, if any is away. NONE: none". */
    private static void awayAndLost() {
        SwapTrophies x = hung(SEVEN + "hang 6 1 2 3 4 5 0;");
        due(25, "not away", x.away(3), 0);
        due(25, "to the right", x.away(0), 6);
        due(25, "to the left", x.away(6), 6);
        due(26, "the first of two", x.lost(), 0);
        due(26, "none", hung(SEVEN).lost(), -1);
        due(26, "by one place", hung(SEVEN + "hang 0 1 2 3 4 6 5;").lost(), 5);
        due(26, "the first of several", hung(SEVEN + "hang 0 2 1 4 3 6 5;").lost(), 1);
        due(26, "the farthest, not the first", hung(SEVEN + "hang 1 2 3 0 4 5 6;").lost(), 0);
        due(26, "the farthest is the last", hung(SEVEN + "hang 0 1 6 2 3 4 5;").lost(), 6);
        due(25, "no such head", x.away(7), -2);
        for (int k : NEVER) {
            due(25, "no such head", x.away(k), -2);
        }
    }

    /** Promise 27: "-2: there is none such". */
    private static void besideEdges() {
        SwapTrophies x = hung(SEVEN + "hang 6 5 4 3 2 1 0;");
        due(27, "at the left end", x.beside(6), 32);
        due(27, "at the right end", x.beside(0), 2);
        due(27, "in the middle", x.beside(3), 20);
        due(27, "no such head", x.beside(7), -2);
        for (int k : NEVER) {
            due(27, "no such head", x.beside(k), -2);
        }
    }

    /** Promise 28: pairs count once, at the ends, too. */
    private static void quarrelEdges() {
        StringBuilder text = new StringBuilder(SEVEN);
        for (int head = 0; head < 6; head++) {
            text.append("apart ").append(head).append(' ').append(head + 1).append(';');
            text.append("apart ").append(head + 1).append(' ').append(head).append(';');
        }
        due(28, "all", hung(text.toString()).quarrels(), 6);
        due(28, "none", hung(SEVEN).quarrels(), 0);
        due(28, "at the left end", hung(SEVEN + "apart 1 0;").quarrels(), 1);
        due(28, "at the right end", hung(SEVEN + "apart 5 6;").quarrels(), 1);
        due(28, "two places from each other", hung(SEVEN + "apart 2 4;").quarrels(), 0);
    }

    /** Promise 29: "Of 0 .. n (0 .. 5,000) NIGHTS later the first ... -2: there is no such n, no HALL". */
    private static void finestEdges() {
        SwapTrophies x = hung("hall places 2; hang 1 0; law 0 with 1 each 6 from 5;");
        due(29, "0 nights: now", x.finest(0), 0);
        due(29, "a night too few", x.finest(5), 0);
        due(29, "just enough", x.finest(6), 6);
        due(29, "the first of several", x.finest(5000), 6);
        due(29, "a night too many", x.finest(5001), -2);
        for (int k : NEVER) {
            due(29, "no such n", x.finest(k), -2);
        }
        due(29, "now, the first of several", hung(TURNING).finest(5000), 0);
        due(29, "none ever", hung("hall places 2; hang 1 0;").finest(5000), 0);
        SwapTrophies y = hung(LONGEST);
        y.night();
        due(29, "the longest turn", y.finest(719), 719);
        due(29, "the longest turn", y.finest(5000), 719);
    }

    /** Promise 30: "Behind how many of the next n (0 .. 5,000) NIGHTS ... -2: there are none such". */
    private static void spellsEdges() {
        SwapTrophies x = hung("hall places 2; law 0 with 1 each 1 from 0;");
        due(30, "0 nights", x.spells(0, 0), 0);
        due(30, "now does not count", x.spells(0, 1), 0);
        due(30, "two nights", x.spells(0, 2), 1);
        due(30, "the most nights but one", x.spells(1, 4999), 2499);
        due(30, "the most nights", x.spells(1, 5000), 2500);
        due(30, "a night too many", x.spells(0, 5001), -2);
        due(30, "no such head", x.spells(2, 0), -2);
        for (int k : NEVER) {
            due(30, "no such n", x.spells(0, k), -2);
            due(30, "no such head", x.spells(k, 0), -2);
        }
        due(30, "always", hung(THREE).spells(2, 5000), 5000);
        due(30, "never", hung(THREE + "hang 0 2 1;").spells(2, 5000), 0);
        int[] spells = {667, 686, 555, 666, 535, 747, 837};
        SwapTrophies y = hung(LONGEST);
        for (int head = 0; head < 7; head++) {
            due(30, "by the longest turn", y.spells(head, 5000), spells[head]);
        }
    }

    /** "nothing done": these calls only tell. */
    private static void nothingDone() {
        SwapTrophies x = hung(LONGEST);
        x.night();
        x.swap(0, 6);
        String was = seen(x);
        for (int k = -1; k <= 7; k++) {
            int sum = x.later(k, BILLION) + x.right(k) + x.comes(k, 0) + x.meet(k, 1) + x.tonight(k) + x.spells(k, 100);
            sum += x.ring(k) + x.away(k) + x.beside(k) + x.finest(k) + x.whole() + x.round() + x.lost() + x.quarrels();
            sum += x.odd() + x.swaps() + x.steps() + x.rings() + x.stay() + x.rights();
            due(11, "answers", sum == Integer.MIN_VALUE ? 1 : 0, 0);
        }
        stays(11, "later() and its like", x, was);
    }
}
