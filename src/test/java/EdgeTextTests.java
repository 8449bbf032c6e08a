/** The boundary cases of Terms I and of promises 1 (a new object) to 8 (apart), sentence by sentence. */
public final class EdgeTextTests extends Kit {
    private static final String THREE = "hall places 3;";
    private static final String SEVEN = "hall places 7;";
    private static final int[] NEVER = {-1, Integer.MIN_VALUE, Integer.MAX_VALUE};

    public static void main(String[] args) {
        noHallAtFirst();
        feedBytes();
        feedFull();
        endCuts();
        endRefuses();
        hallEmpty();
        hallInPlaceOfAnother();
        hallFull();
        hallFaultStays();
        faultBounds();
        faultOfTheLatest();
        tokensByByte();
        tokensLongest();
        faultPlaces();
        hallLine();
        hangLine();
        lawLine();
        leapLine();
        suitLine();
        apartLine();
        seventhLaw();
        numbersThatWrapAround();
        lawBounds();
        suitsBounds();
        apartBounds();
        finish("the text's edges hold");
    }

    /** Promise 1: "No HALL." */
    private static void noHallAtFirst() {
        SwapTrophies x = new SwapTrophies();
        long[] answers = {x.law(0, 0), x.suits(0, 0), x.apart(0), x.at(0), x.where(0), x.later(0, 0), x.right(0), x.rights(),
            x.whole(), x.round(), x.comes(0, 0), x.meet(0, 1), x.tonight(0), x.odd(), x.swaps(), x.steps(), x.rings(), x.stay(),
            x.ring(0), x.away(0), x.lost(), x.beside(0), x.quarrels(), x.finest(0), x.spells(0, 0), x.slide(0), x.slides(0, 0),
            x.reach(), x.far(), x.fits(0), x.fit(0, 0), x.ask(0), x.leaves(0), x.changed(0), x.same(0), x.skipped(0), x.hangs(),
            x.hang(0), x.parts(), x.best(), x.bests(0), x.ways(), x.suit(), x.trade(), x.wins(0), x.takes(0), x.chance(0, 0, 0),
            x.likely(0), x.swap(0, 1), x.night(), x.undo(), x.anew(), x.nights(), x.drawn(0, 0, 0), x.luck(0, 1, 0, 0),
            x.tell(0, 0, 0)};
        for (int i = 0; i < answers.length; i++) {
            due(1, "call " + i + " without a hall", answers[i], -2);
        }
        for (int what = 0; what <= 6; what++) {
            due(1, "count(" + what + ") without a hall", x.count(what), 0);
        }
        for (int k = 0; k < 3; k++) {
            due(1, "no image yet", x.back(k), -6);
        }
        for (int slot = 0; slot < 4; slot++) {
            due(1, "no row yet", x.write(slot, 0, 0), -6);
        }
    }

    /** Promise 2: "Twenty bytes come behind the TAPE, four of each number, the highest first". */
    private static void feedBytes() {
        for (int at = 0; at < 20; at++) {
            for (int odd : new int[] {'#', 0, 127, 128, 255}) {
                SwapTrophies x = new SwapTrophies();
                x.feed(0x20202020, 0x20202020, 0x20202020, 0x20202020, 0x0a0a0a0a);
                int[] v = {0x20202020, 0x20202020, 0x20202020, 0x20202020, 0x20202020};
                int shift = 8 * (3 - at % 4);
                v[at / 4] = v[at / 4] & ~(255 << shift) | odd << shift;
                due(2, "feed with an odd byte", x.feed(v[0], v[1], v[2], v[3], v[4]), 40);
                due(2, "hall() of an odd byte", x.hall(), -4);
                due(2, "the place of byte " + at, x.fault(1), 20 + at);
            }
        }
    }

    /** Promise 2: "how many it has; NONE, and none come, if it would have more than 800". */
    private static void feedFull() {
        SwapTrophies x = new SwapTrophies();
        for (int i = 1; i <= 40; i++) {
            due(2, "feed " + i, x.feed(0x20202020, 0x0a0a0a0a, 0x20202020, 0x20202020, 0x20202020), 20 * i);
        }
        due(2, "feed to 820", x.feed(-1, -1, -1, -1, -1), -1);
        due(2, "none came", x.count(5), 800);
        for (int n = 799; n > 780; n--) {
            due(3, "end(" + n + ")", x.end(n), n);
            due(2, "feed to " + (n + 20), x.feed(-1, -1, -1, -1, -1), -1);
            due(2, "none came", x.count(5), n);
        }
        due(2, "those that did not come are not there", x.hall(), 0);
        SwapTrophies y = new SwapTrophies();
        for (int i = 0; i < 40; i++) {
            y.feed(0x20202020, 0x20202020, 0x20202020, 0x20202020, 0x20202020);
        }
        due(3, "end(780)", y.end(780), 780);
        due(2, "feed to 800 in part", y.feed(0x20202020, 0x20202020, 0x20202020, 0x20202020, 0x20202023), 800);
        due(2, "the last byte", y.hall(), -4);
        due(2, "the last byte's place", y.fault(1), 799);
    }

    /** Promise 3: "The TAPE has its first n bytes alone: n". */
    private static void endCuts() {
        SwapTrophies x = new SwapTrophies();
        put(x, THREE + "leap 9;");
        due(3, "end of all", x.end(21), 21);
        due(3, "end(14)", x.end(14), 14);
        due(3, "end(14) again", x.end(14), 14);
        due(3, "end(15), cut off already", x.end(15), -1);
        due(3, "the first alone", x.hall(), 1);
        put(x, THREE + "leap 9;");
        x.end(14);
        due(2, "feed behind what is left", x.feed(0x20202020, 0x20202020, 0x20202020, 0x20202020, 0x20202020), 34);
        due(3, "what was cut off does not come back", x.hall(), 1);
        // A token that is cut ends there, of whatever kind the bytes behind it were.
        String[] longer = {"halls", THREE + "leap 11", THREE + "leap 1;;", THREE + "leap 1  ;", THREE + "leapt"};
        int[] places = {4, 20, -1, 22, 18};
        for (int i = 0; i < longer.length; i++) {
            put(x, longer[i]);
            x.end(longer[i].length() - 1);
            due(3, "a token that is cut", x.hall(), places[i] < 0 ? 2 : -4);
            due(3, "a token that is cut", x.fault(1), places[i]);
            x.end(0);
        }
        put(x, THREE);
        due(3, "end(0)", x.end(0), 0);
        due(3, "end(0) of none", x.end(0), 0);
        due(3, "none left", x.hall(), 0);
    }

    /** Promise 3: "NONE, and nothing happens, if it has not so many, or n is below 0". */
    private static void endRefuses() {
        SwapTrophies x = new SwapTrophies();
        due(3, "end(1) of none", x.end(1), -1);
        due(3, "end(0) of none", x.end(0), 0);
        put(x, THREE);
        for (int n : new int[] {15, 16, 800, 801, -1, -14, Integer.MIN_VALUE, Integer.MAX_VALUE}) {
            due(3, "end(" + n + ") of 14", x.end(n), -1);
            due(3, "nothing happens", x.count(5), 14);
        }
        due(3, "the text is as it was", x.hall(), 1);
    }

    /** Promise 4: "how many LINES (0: there is none then)". */
    private static void hallEmpty() {
        String[] empties = {"", " ", "\n", " \n  \n\n "};
        for (String empty : empties) {
            SwapTrophies x = hung("hall places 4; hang 3 2 1 0; law 0 with 1 each 1 from 0; suit 1 1 1; apart 0 1;");
            x.swap(0, 1);
            x.night();
            x.image(1);
            x.row(2, 2, 2);
            put(x, empty);
            due(4, "hall() of nothing", x.hall(), 0);
            due(4, "none then", x.rights(), -2);
            due(4, "none then", x.nights(), -2);
            due(4, "none then", x.undo(), -2);
            due(4, "none then", x.law(0, 0), -2);
            for (int what = 0; what <= 5; what++) {
                due(4, "count(" + what + ") of none", x.count(what), 0);
            }
            due(4, "slots stay", x.count(6), 1);
            due(4, "no fault", x.fault(0), 0);
            due(4, "no fault's place", x.fault(1), -1);
            due(4, "images stay", x.back(1), 0);
            due(4, "images stay", x.count(3), 2);
        }
        due(4, "one line", hung("hall places 2;").count(4), 1);
    }

    /** Promise 4: "The TAPE (empty then) is the HALL (in place of another), nothing done". */
    private static void hallInPlaceOfAnother() {
        SwapTrophies x = hung("hall places 7; hang 6 5 4 3 2 1 0; law 0 with 6 each 1 from 0; leap 3; suit 1 1 9; apart 0 1;");
        x.swap(0, 1);
        x.night();
        due(4, "the tape is empty", x.count(5), 0);
        due(4, "hall() again, of an empty tape", x.hall(), 0);
        take(x, SEVEN);
        due(4, "lines", x.count(4), 1);
        due(4, "the tape is empty", x.count(5), 0);
        due(4, "no laws of the one before", x.count(1), 0);
        due(4, "no pairs of the one before", x.count(2), 0);
        due(4, "no acts of the one before", x.count(3), 0);
        due(4, "no nights of the one before", x.nights(), 0);
        due(4, "no suit of the one before", x.suits(1, 1), 0);
        due(4, "no row of the one before", x.rights(), 127);
        due(4, "no leaps of the one before", x.reach(), 7);
        due(4, "nothing to take back", x.undo(), -5);
        take(x, "hall places 2;");
        due(4, "a lesser hall: no place 2", x.at(2), -2);
        due(4, "a lesser hall: its blank is head 1", x.likely(0), 1);
    }

    /** Promise 4: a TAPE that is full, and one byte too few. */
    private static void hallFull() {
        StringBuilder text = new StringBuilder(SEVEN);
        while (text.length() + 6 <= 800) {
            text.append("leap6;");
        }
        SwapTrophies x = new SwapTrophies();
        put(x, text.toString());
        due(4, "a full tape", x.count(5), 800);
        due(4, "lines of a full tape", x.hall(), 1 + 131);
        put(x, text.toString());
        x.end(799);
        due(4, "the last sign is missing", x.hall(), -4);
        due(5, "at the end", x.fault(1), 799);
        due(5, "the end can't stand there", x.fault(0), 1);
    }

    /** Promise 4: "-4: a FAULT (all stays)". */
    private static void hallFaultStays() {
        SwapTrophies x = hung("hall places 4; hang 3 2 1 0; law 0 with 1 each 2 from 1; leap 2; suit 1 1 1; apart 0 1;");
        x.tell(2, 2, 22);
        x.swap(0, 1);
        x.night();
        x.row(1, 1, 1);
        String[] texts = {"hall places 5; hang 0 1 2 3 4; law 0 with 1 each 1 from 0; leap 3; suit 3 3 3; apart 2 3; leap 0;",
            "hall places 8;", "leap 1;", "#"};
        for (String text : texts) {
            x.end(0);
            put(x, text);
            String was = seen(x);
            due(4, "hall() of a fault", x.hall(), -4);
            stays(4, "all stays", x, was);
        }
        due(4, "the leaps stay", x.reach(), 2);
        due(4, "the tape stays: the same fault again", x.hall(), -4);
        due(4, "the tape stays", x.count(5), 1);
        due(4, "acts stay", x.undo(), 1);
        due(4, "acts stay", x.undo(), 0);
        due(4, "the row stays", x.at(0), 3);
        due(4, "images stay", x.back(0), -6);
    }

    /** Promise 5: "0 without ... (NONE without). NONE for another what, and ahead of any (what 1)". */
    private static void faultBounds() {
        SwapTrophies x = new SwapTrophies();
        int[] others = {2, 3, -1, -2, Integer.MIN_VALUE, Integer.MAX_VALUE};
        for (int round = 0; round < 3; round++) {
            for (int what : others) {
                due(5, "fault(" + what + ")", x.fault(what), -1);
            }
            due(5, "fault(0)", x.fault(0), round == 2 ? 2 : 0);
            due(5, "fault(1)", x.fault(1), round == 2 ? 12 : -1);
            put(x, round == 0 ? THREE : "hall places 9;");
            due(4, "hall()", x.hall(), round == 0 ? 1 : -4);
            x.end(round == 0 ? 0 : 14);
        }
    }

    /** Promise 5: "Of the latest hall()". */
    private static void faultOfTheLatest() {
        SwapTrophies x = new SwapTrophies();
        put(x, THREE + "leap 7;");
        x.hall();
        x.end(0);
        due(5, "end() leaves it", x.fault(0), 2);
        put(x, THREE + "heap");
        due(5, "feed() leaves it", x.fault(1), 19);
        x.hall();
        due(5, "the latest", x.fault(0), 1);
        due(5, "the latest", x.fault(1), 14);
        x.image(0);
        x.back(0);
        due(5, "back() leaves it", x.fault(1), 14);
        x.end(14);
        due(4, "a good one", x.hall(), 1);
        due(5, "none", x.fault(0), 0);
        due(5, "none", x.fault(1), -1);
        put(x, "");
        due(4, "of nothing", x.hall(), 0);
        due(5, "none", x.fault(0), 0);
    }

    /** "TOKENS, blanks (32, 10) aside, the longest: words (a .. z), numbers (digits), the sign ;". */
    private static void tokensByByte() {
        for (int b = 0; b < 256; b++) {
            boolean isBlank = b == 32 || b == 10;
            boolean isLetter = b >= 97 && b <= 122;
            boolean isDigit = b >= 48 && b <= 57;
            String behindNumber = THREE + "leap 1" + (char) b + ";";
            String behindWord = THREE + "leap" + (char) b + " 1;";
            if (isBlank) {
                due(4, behindNumber, hung(behindNumber).count(4), 2);
                due(4, behindWord, hung(behindWord).count(4), 2);
            } else if (isDigit) {
                fault(behindNumber, 2, 19);
                boolean isLeap = b >= '1' && b <= '6';
                fault(behindWord, isLeap ? 1 : 2, isLeap ? 20 : 18);
            } else if (isLetter) {
                fault(behindNumber, 1, 20);
                fault(behindWord, 1, 14);
            } else {
                fault(behindNumber, 1, b == ';' ? 21 : 20);
                fault(behindWord, 1, 18);
            }
        }
    }

    private static void tokensLongest() {
        due(4, "no blanks needed", hung("hall\nplaces3;hang2 1 0;law0with1each6from5;suit0 1 2;apart0 1;leap6;").count(4), 6);
        due(4, "blanks before and behind", hung(" \n hall  places\n\n3 ; leap 1 ;\n").count(4), 2);
        fault("hallplaces 3;", 1, 0);
        fault("hall places3 4;", 1, 13);
        fault("hall places 33;", 2, 12);
        fault("hall places 3 ;3;", 1, 15);
        fault("ha ll places 3;", 1, 0);
        fault(THREE + "hang 012;", 2, 19);
        fault(THREE + "hang 01 2;", 1, 23);
        fault(THREE + "hang01;", 1, 20);
        fault(THREE + "lawwith;", 1, 14);
        due(4, "noughts ahead of a number", hung("hall places 000000000000000000000000000000003;").count(0), 3);
        due(4, "noughts alone", hung(THREE + "suit 00 000 0;").count(4), 2);
    }

    /** "FAULTS, the first by its place (a TOKEN's first byte; the end's), of one place the least". */
    private static void faultPlaces() {
        fault(THREE + "leap 77; leap 0; #", 2, 19);
        fault(THREE + "leap #; leap 0;", 1, 19);
        fault(THREE + "leap 77", 2, 19);
        fault(THREE + "leap 6", 1, 20);
        fault(THREE + "leap 6  \n ", 1, 24);
        fault(THREE + "  leap", 1, 20);
        fault(THREE + "   leapt 1;", 1, 17);
        fault("hall places", 1, 11);
        fault("  #", 1, 2);
        // A head too many that is out of its bounds, or hangs already: the least of one place.
        fault(THREE + "hang 2 1 0 3;", 1, 25);
        fault(THREE + "hang 2 1 0 2;", 1, 25);
        fault(THREE + "hang 2 1 0 hang;", 1, 25);
    }

    /** "hall is the first LINE and no other: places 2 .. 7". */
    private static void hallLine() {
        for (int n = 0; n <= 10; n++) {
            String text = "hall places " + n + ";";
            if (n >= 2 && n <= 7) {
                due(4, text, hung(text).count(0), n);
                due(4, "all hang right without a hang", hung(text).rights(), (1 << n) - 1);
            } else {
                fault(text, 2, 12);
            }
        }
        for (String word : new String[] {"hang", "law", "leap", "suit", "apart", "places", "with", "each", "from", "x"}) {
            fault(word + " 1;", 1, 0);
            fault(" " + word, 1, 1);
        }
        for (String word : new String[] {"hall", "places", "with", "each", "from", "x", "7", ";", "#"}) {
            fault(THREE + "leap 1; " + word + " 2;", 1, 22);
        }
        fault("hall;", 1, 4);
        fault("hall places;", 1, 11);
        fault("hall 3 places;", 1, 5);
        fault("hall hall places 3;", 1, 5);
        fault("hall places places 3;", 1, 12);
        fault("hall places 3 leap 1;", 1, 14);
    }

    /** "hang: all HEADS 0 .. places less 1, each once, by PLACES (a later one strikes; ...)". */
    private static void hangLine() {
        SwapTrophies x = hung("hall places 2; hang 1 0;");
        due(4, "by places", x.at(0), 1);
        due(4, "by places", x.at(1), 0);
        due(4, "a later one strikes", hung(THREE + "hang 1 2 0; hang 2 0 1;").at(0), 2);
        due(4, "a later one strikes, the right one", hung(THREE + "hang 1 2 0; hang 0 1 2;").rights(), 7);
        SwapTrophies y = hung(SEVEN + "hang 6 5 4 3 2 1 0;");
        due(4, "seven", y.at(0), 6);
        due(57, "the hang that struck is where it comes back to", comeBack(), 2);
        fault("hall places 2; hang 0 2;", 2, 22);
        fault("hall places 2; hang 2 0;", 2, 20);
        fault("hall places 2; hang 1 1;", 2, 22);
        fault(SEVEN + "hang 6 5 4 3 2 1 7;", 2, 31);
        fault(SEVEN + "hang 6 5 4 3 2 1 6;", 2, 31);
        fault(SEVEN + "hang 6 5 4 3 2 1;", 1, 30);
        fault(SEVEN + "hang 6 5 4 3 2 1 0 0;", 1, 33);
        fault("hall places 2; hang;", 1, 19);
        fault("hall places 2; hang 0;", 1, 21);
        fault("hall places 2; hang 0 1 2;", 1, 24);
        fault(THREE + "hang 1 2 0; hang 1 2;", 1, 34);
    }

    private static int comeBack() {
        SwapTrophies x = hung(THREE + "hang 1 2 0; hang 2 0 1;");
        x.swap(0, 1);
        x.anew();
        return x.at(0);
    }

    /** "law: two unlike PLACES, each 1 .. 6, from 0 .. each less 1". */
    private static void lawLine() {
        for (int each = 1; each <= 6; each++) {
            for (int from = 0; from < each; from++) {
                SwapTrophies x = hung(THREE + "law 2 with 0 each " + each + " from " + from + ";");
                due(6, "each " + each, x.law(0, 2), each);
                due(6, "from " + from, x.law(0, 3), from);
            }
            fault(THREE + "law 2 with 0 each " + each + " from " + each + ";", 2, 39);
            fault(THREE + "law 2 with 0 each " + each + " from 6;", 2, 39);
        }
        fault(THREE + "law 2 with 0 each 0 from 0;", 2, 32);
        fault(THREE + "law 2 with 0 each 7 from 0;", 2, 32);
        fault(THREE + "law 3 with 0 each 1 from 0;", 2, 18);
        fault(THREE + "law 2 with 3 each 1 from 0;", 2, 25);
        for (int place = 0; place < 3; place++) {
            fault(THREE + "law " + place + " with " + place + " each 1 from 0;", 2, 25);
        }
        due(6, "the last place", hung(SEVEN + "law 6 with 0 each 1 from 0;").law(0, 0), 6);
        fault(SEVEN + "law 7 with 0 each 1 from 0;", 2, 18);
        fault(THREE + "law;", 1, 17);
        fault(THREE + "law 1;", 1, 19);
        fault(THREE + "law 1 0 each 1 from 0;", 1, 20);
        fault(THREE + "law 1 with;", 1, 24);
        fault(THREE + "law 1 with 0;", 1, 26);
        fault(THREE + "law 1 with 0 each;", 1, 31);
        fault(THREE + "law 1 with 0 each 1;", 1, 33);
        fault(THREE + "law 1 with 0 each 1 from;", 1, 38);
        fault(THREE + "law 1 with 0 each 1 from 0 0;", 1, 41);
        fault(THREE + "law 1 with 0 from 0 each 1;", 1, 27);
        fault(THREE + "law 1 with 0 each 1 each 0;", 1, 34);
    }

    /** "leap: 1 .. 6 (like ones count once; 1 alone without any)". */
    private static void leapLine() {
        for (int leap = 0; leap <= 10; leap++) {
            if (leap >= 1 && leap <= 6) {
                due(33, "leap " + leap + " in two places", hung("hall places 2; leap " + leap + ";").reach(), leap == 1 ? 2 : 1);
                due(33, "leap " + leap + " alone in seven", hung(SEVEN + "leap " + leap + ";").reach(), 1 + 6 / leap);
            } else {
                fault(SEVEN + "leap " + leap + ";", 2, 19);
            }
        }
        due(33, "1 alone without any", hung(THREE).reach(), 3);
        due(33, "like ones count once", hung(THREE + "leap 2; leap 2; leap 2;").reach(), 2);
        due(4, "but they are lines", hung(THREE + "leap 2; leap 2; leap 2;").count(4), 4);
        due(33, "not 1, if another is told", hung("hall places 4; leap 3;").reach(), 2);
        fault(THREE + "leap;", 1, 18);
        fault(THREE + "leap 1 2;", 1, 21);
    }

    /** "suit: by 0 .. 99 (a later one of both strikes)". */
    private static void suitLine() {
        due(7, "suit 0", hung(THREE + "suit 0 1 5; suit 0 1 0;").suits(0, 1), 0);
        SwapTrophies x = hung(THREE + "suit 2 0 99; suit 0 2 98; suit 2 1 97; suit 1 0 96;");
        due(7, "head, then place", x.suits(2, 0), 99);
        due(7, "a later one of both alone strikes", x.suits(0, 2), 98);
        due(7, "of one head, another place", x.suits(2, 1), 97);
        due(7, "of one place, another head", x.suits(1, 0), 96);
        due(7, "0 without", x.suits(1, 1), 0);
        due(7, "head and place of one number", hung(THREE + "suit 2 2 1;").suits(2, 2), 1);
        fault(THREE + "suit 0 0 100;", 2, 23);
        fault(THREE + "suit 3 0 1;", 2, 19);
        fault(THREE + "suit 0 3 1;", 2, 21);
        fault(SEVEN + "suit 7 0 1;", 2, 19);
        fault(SEVEN + "suit 6 7 1;", 2, 21);
        due(7, "the last ones", hung(SEVEN + "suit 6 6 1;").suits(6, 6), 1);
        fault(THREE + "suit;", 1, 18);
        fault(THREE + "suit 0;", 1, 20);
        fault(THREE + "suit 0 0;", 1, 22);
        fault(THREE + "suit 0 0 0 0;", 1, 25);
    }

    /** "apart: two unlike HEADS"; "apart holds both ways". */
    private static void apartLine() {
        SwapTrophies x = hung(THREE + "apart 0 2; apart 2 0; apart 0 2;");
        due(62, "one pair", x.count(2), 1);
        due(8, "one way", x.apart(0), 4);
        due(8, "the other way", x.apart(2), 1);
        due(8, "none", x.apart(1), 0);
        for (int head = 0; head < 3; head++) {
            fault(THREE + "apart " + head + " " + head + ";", 2, 22);
        }
        fault(THREE + "apart 3 0;", 2, 20);
        fault(THREE + "apart 0 3;", 2, 22);
        fault(THREE + "apart;", 1, 19);
        fault(THREE + "apart 0;", 1, 21);
        fault(THREE + "apart 0 1 2;", 1, 24);
        StringBuilder all = new StringBuilder(SEVEN);
        for (int a = 0; a < 7; a++) {
            for (int b = 0; b < a; b++) {
                all.append("apart ").append(a).append(' ').append(b).append(';');
            }
        }
        due(62, "all pairs", hung(all.toString()).count(2), 21);
        due(8, "all but itself", hung(all.toString()).apart(6), 63);
    }

    /** "LAWS 0 .. 5 are numbered as they stand"; "3 a 7th law, at its word". */
    private static void seventhLaw() {
        StringBuilder laws = new StringBuilder(SEVEN);
        for (int i = 0; i < 6; i++) {
            laws.append("law ").append(i).append(" with ").append(i + 1).append(" each 6 from ").append(i).append(';');
            if (i == 2) {
                laws.append("leap 1;");
            }
        }
        SwapTrophies x = hung(laws.toString());
        due(62, "six laws", x.count(1), 6);
        for (int law = 0; law < 6; law++) {
            due(6, "as they stand", x.law(law, 0), law);
            due(6, "as they stand", x.law(law, 3), law);
        }
        int length = laws.length();
        fault(laws + "law 0 with 1 each 1 from 0;", 3, length);
        fault(laws + "\n law", 3, length + 2);
        fault(laws + "law #;", 3, length);
        fault(laws + "laws", 1, length);
        fault(laws + "leap 0; law 0 with 1 each 1 from 0;", 2, length + 5);
        due(4, "other lines behind six laws", hung(laws + "apart 0 1;").count(2), 1);
    }

    /** "2 a number out of its bounds", however many digits it has. */
    private static void numbersThatWrapAround() {
        // Each is the number that is meant plus 2 to the 32nd, or to the 64th, or far more.
        String[][] lines = {{"hang ", "0", " 1 2"}, {"hang 0 1 ", "2", ""}, {"law ", "0", " with 1 each 2 from 1"},
            {"law 0 with ", "1", " each 2 from 1"}, {"law 0 with 1 each ", "2", " from 1"}, {"law 0 with 1 each 2 from ", "1", ""},
            {"leap ", "1", ""}, {"suit ", "1", " 1 1"}, {"suit 1 ", "1", " 1"}, {"suit 1 1 ", "1", ""}, {"apart ", "0", " 1"},
            {"apart 0 ", "1", ""}};
        String[] added = {"256", "65536", "4294967296", "18446744073709551616", "1000000000000000000000000000000000000000"};
        for (String more : added) {
            for (String[] line : lines) {
                due(4, "the line as it is", hung(THREE + line[0] + line[1] + line[2] + ";").count(4), 2);
                String number = new java.math.BigInteger(more).add(new java.math.BigInteger(line[1])).toString();
                fault(THREE + line[0] + number + line[2] + ";", 2, 14 + line[0].length());
            }
            fault("hall places " + new java.math.BigInteger(more).add(java.math.BigInteger.TWO) + ";", 2, 12);
        }
    }

    /** Promise 6: "-2: there are none such". */
    private static void lawBounds() {
        SwapTrophies x = hung(THREE + "law 2 with 1 each 6 from 5; law 0 with 2 each 1 from 0;");
        due(6, "law(1, 3)", x.law(1, 3), 0);
        due(6, "law(0, 1)", x.law(0, 1), 1);
        for (int k : NEVER) {
            due(6, "law(" + k + ", 0)", x.law(k, 0), -2);
            due(6, "law(0, " + k + ")", x.law(0, k), -2);
        }
        due(6, "law(2, 0)", x.law(2, 0), -2);
        due(6, "law(5, 0)", x.law(5, 0), -2);
        due(6, "law(6, 0)", x.law(6, 0), -2);
        due(6, "law(0, 4)", x.law(0, 4), -2);
        due(6, "law(0, 0) without any", hung(THREE).law(0, 0), -2);
        // Laws that a greater hall had are none of the next one.
        take(x, THREE);
        due(6, "law(0, 0) of the one before", x.law(0, 0), -2);
    }

    /** Promise 7: "(0 without). -2: there are none such". */
    private static void suitsBounds() {
        for (int places = 2; places <= 7; places++) {
            SwapTrophies x = hung("hall places " + places + ";");
            due(7, "0 without", x.suits(places - 1, places - 1), 0);
            due(7, "no such head", x.suits(places, 0), -2);
            due(7, "no such place", x.suits(0, places), -2);
            for (int k : NEVER) {
                due(7, "no such head", x.suits(k, 0), -2);
                due(7, "no such place", x.suits(0, k), -2);
            }
        }
    }

    /** Promise 8: "-2: there is none such". */
    private static void apartBounds() {
        for (int places = 2; places <= 7; places++) {
            SwapTrophies x = hung("hall places " + places + "; apart 0 " + (places - 1) + ";");
            due(8, "the last head", x.apart(places - 1), 1);
            due(8, "the first head", x.apart(0), 1 << places - 1);
            due(8, "no such head", x.apart(places), -2);
            for (int k : NEVER) {
                due(8, "no such head", x.apart(k), -2);
            }
        }
    }
}
