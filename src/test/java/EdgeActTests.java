/** The boundary cases of Terms V and VI and of promises 50 (wins) to 64 (back), sentence by sentence. */
public final class EdgeActTests extends Kit {
    private static final String TWO = "hall places 2;";
    private static final String THREE = "hall places 3;";
    private static final String SEVEN = "hall places 7;";
    private static final int MOST_SEED = 2_000_000_000;
    private static final int[] NEVER = {-1, Integer.MIN_VALUE, Integer.MAX_VALUE};

    public static void main(String[] args) {
        gameEdges();
        gameBounds();
        chanceEdges();
        chanceFractions();
        chanceBounds();
        likelyEdges();
        swapRefuses();
        fortyActs();
        nightEdges();
        undoEdges();
        anewEdges();
        nightsEdges();
        drawnEdges();
        drawnBounds();
        luckEdges();
        luckBounds();
        tellEdges();
        tellRefuses();
        countEdges();
        imageBounds();
        imageKeeps();
        imageOfNone();
        finish("the acts' edges hold");
    }

    /** "never to a PLACE in which it was already (where it begins, too); who can't lead it loses". */
    private static void gameEdges() {
        SwapTrophies x = hung(TWO);
        due(50, "there and not back", x.wins(0), 1);
        due(51, "there", x.takes(0), 1);
        due(50, "there and not back", x.wins(1), 1);
        due(51, "there", x.takes(1), 0);
        SwapTrophies stuck = hung(SEVEN + "leap 6;");
        due(50, "who can't lead it loses", stuck.wins(3), 0);
        due(51, "who can't lead it loses", stuck.takes(3), -1);
        due(50, "one lead", stuck.wins(0), 1);
        due(51, "one lead", stuck.takes(0), 6);
        // From an end by leaps of 1 all is forced: places less 1 leads; who makes the last one wins.
        for (int places = 2; places <= 7; places++) {
            SwapTrophies y = hung("hall places " + places + ";");
            boolean wins = (places - 1) % 2 == 1;
            due(50, "forced", y.wins(0), wins ? 1 : 0);
            due(51, "forced", y.takes(0), wins ? 1 : -1);
            due(51, "forced, from the other end", y.takes(places - 1), wins ? places - 2 : -1);
        }
        // In the middle of five both sides have two more: whoever begins is led to an end and stuck.
        SwapTrophies five = hung("hall places 5;");
        due(50, "two more on either side", five.wins(2), 0);
        due(51, "two more on either side", five.takes(2), -1);
        due(51, "one on the left", five.takes(1), 0);
        due(51, "three on the left win, too: the least", five.takes(3), 2);
        due(51, "the least of two", hung(THREE).takes(1), 0);
        // What hangs now does not matter: the place is told.
        five.swap(4, 0);
        due(51, "wherever it hangs", five.takes(1), 0);
        // A hall behind another: its game is its own, whichever call asks first.
        take(five, TWO);
        due(50, "one lead", five.wins(0), 1);
        take(five, TWO + "leap 2;");
        due(50, "no lead", five.wins(0), 0);
        take(five, TWO);
        due(51, "one lead", five.takes(0), 1);
        take(five, TWO + "leap 2;");
        due(51, "no lead", five.takes(0), -1);
        due(51, "asked first", hung(TWO).takes(1), 0);
    }

    /** Promises 50, 51: "-2: there is no such PLACE". */
    private static void gameBounds() {
        for (int places = 2; places <= 7; places++) {
            SwapTrophies x = hung("hall places " + places + ";");
            due(50, "no such place", x.wins(places), -2);
            due(51, "no such place", x.takes(places), -2);
            for (int k : NEVER) {
                due(50, "no such place", x.wins(k), -2);
                due(51, "no such place", x.takes(k), -2);
            }
        }
    }

    /** "of all pairs of PLACES beside each other one, each as likely": the ends have one pair each. */
    private static void chanceEdges() {
        SwapTrophies x = hung(TWO);
        for (int n = 0; n <= 12; n++) {
            due(52, "of two it always goes", x.chance(1, n, 0), 1 - n % 2);
            due(52, "of two it always goes", x.chance(1, n, 1), 1);
            due(53, "of two it always goes", x.likely(n), 1 - n % 2);
        }
        SwapTrophies y = hung(SEVEN);
        long[] above = {0, 0, 0, 0, 0, 1, 5};
        long[] below = {1, 1, 1, 1, 1, 6, 6};
        for (int place = 0; place < 7; place++) {
            due(52, "one night from the end", y.chance(place, 1, 0), above[place]);
            due(52, "one night from the end", y.chance(place, 1, 1), below[place]);
            due(52, "no night", y.chance(place, 0, 0), place == 6 ? 1 : 0);
            due(52, "no night, 0 / 1 or 1 / 1", y.chance(place, 0, 1), 1);
        }
        due(52, "one night too few", y.chance(0, 5, 0), 0);
        due(52, "one night too few, 0 / 1", y.chance(0, 5, 1), 1);
        due(52, "just enough", y.chance(0, 6, 0), 1);
        due(52, "just enough", y.chance(0, 6, 1), 46656);
        y.swap(0, 6);
        for (int place = 0; place < 7; place++) {
            due(52, "one night from the left end", y.chance(place, 1, 0), above[6 - place]);
            due(52, "one night from the left end", y.chance(place, 1, 1), below[6 - place]);
            due(52, "no night, at the left end", y.chance(place, 0, 0), place == 0 ? 1 : 0);
        }
    }

    /** "FRACTIONS are told in lowest terms", also such as no int holds. */
    private static void chanceFractions() {
        SwapTrophies x = hung(SEVEN);
        long[][] end = {{3432143, 1088391168}, {12083071, 1088391168}, {78007579, 2176782336L}, {199607083, 2176782336L},
            {403838825, 2176782336L}, {646346233, 2176782336L}, {204488047, 544195584}};
        for (int place = 0; place < 7; place++) {
            due(52, "above, 12 nights from the end", x.chance(place, 12, 0), end[place][0]);
            due(52, "below, 12 nights from the end", x.chance(place, 12, 1), end[place][1]);
        }
        x.swap(3, 6);
        long[][] middle = {{199607083, 2176782336L}, {282239321, 2176782336L}, {194136527, 1088391168}, {109135855, 544195584},
            {194136527, 1088391168}, {282239321, 2176782336L}, {199607083, 2176782336L}};
        for (int place = 0; place < 7; place++) {
            due(52, "above, 12 nights from the middle", x.chance(place, 12, 0), middle[place][0]);
            due(52, "below, 12 nights from the middle", x.chance(place, 12, 1), middle[place][1]);
        }
        due(52, "by fifths", hung("hall places 6;").chance(5, 12, 1), 48828125);
        due(52, "by fifths", hung("hall places 6;").chance(5, 12, 0), 16835983);
    }

    /** Promise 52: "n (0 .. 12) ... -2: there are none such". */
    private static void chanceBounds() {
        SwapTrophies x = hung(THREE);
        for (int k : NEVER) {
            due(52, "no such place", x.chance(k, 0, 0), -2);
            due(52, "no such n", x.chance(0, k, 0), -2);
            due(52, "no such what", x.chance(0, 0, k), -2);
        }
        due(52, "no such place", x.chance(3, 0, 0), -2);
        due(52, "a night too many", x.chance(0, 13, 0), -2);
        due(52, "a night too many", x.chance(0, 13, 1), -2);
        due(52, "no such what", x.chance(0, 0, 2), -2);
        due(52, "the most nights", x.chance(0, 12, 0) > 0 ? 0 : 1, 0);
    }

    /** Promise 53: "the first of several. -2: there is no such n, no HALL". */
    private static void likelyEdges() {
        SwapTrophies x = hung(THREE);
        due(53, "no night", x.likely(0), 2);
        due(53, "the first of two", x.likely(1), 1);
        due(53, "the most nights", x.likely(12), 2);
        due(53, "a night too many", x.likely(13), -2);
        for (int k : NEVER) {
            due(53, "no such n", x.likely(k), -2);
        }
        x.swap(0, 2);
        due(53, "the first of two, from the left end", x.likely(1), 0);
        due(53, "from the middle of three it always goes", middle(1), 0);
        due(53, "and mostly comes back", middle(2), 1);
    }

    private static int middle(int n) {
        return hung(THREE + "hang 0 2 1;").likely(n);
    }

    /** Promise 54: "-2: there are none such, one twice". */
    private static void swapRefuses() {
        SwapTrophies x = hung(THREE);
        String was = seen(x);
        for (int k : new int[] {3, -1, Integer.MIN_VALUE, Integer.MAX_VALUE}) {
            due(54, "no such place", x.swap(k, 0), -2);
            due(54, "no such place", x.swap(0, k), -2);
            due(54, "no such place, twice", x.swap(k, k), -2);
        }
        for (int place = 0; place < 3; place++) {
            due(54, "one twice", x.swap(place, place), -2);
        }
        stays(54, "swaps that are none", x, was);
        due(54, "the ends", x.swap(0, 2), 1);
        due(54, "the ends, told the other way", x.swap(2, 0), 3);
        due(54, "none right", hung(TWO).swap(0, 1), 0);
        due(54, "all of seven right", hung(SEVEN + "hang 1 0 2 3 4 5 6;").swap(0, 1), 7);
    }

    /** Promises 54, 55: "-5: there were 40 acts"; 56: they are taken back one by one. */
    private static void fortyActs() {
        SwapTrophies x = hung(THREE + "law 0 with 1 each 2 from 1;");
        for (int i = 1; i <= 40; i++) {
            due(54, "act " + i, (i % 2 == 0 ? x.swap(1, 2) : x.night()) >= 0 ? 0 : 1, 0);
            due(62, "acts", x.count(3), i);
        }
        String was = seen(x);
        due(54, "swap() behind 40 acts", x.swap(0, 1), -5);
        due(55, "night() behind 40 acts", x.night(), -5);
        stays(54, "a 41st act", x, was);
        due(54, "no such place, behind 40 acts", x.swap(0, 3), -2);
        due(54, "one twice, behind 40 acts", x.swap(1, 1), -2);
        due(56, "undo()", x.undo(), 39);
        due(54, "room for one", x.swap(1, 2) >= 0 ? 0 : 1, 0);
        due(54, "and no more", x.swap(1, 2), -5);
        due(56, "undo()", x.undo(), 39);
        due(55, "room for one", x.night() >= 0 ? 0 : 1, 0);
        due(55, "and no more", x.night(), -5);
        due(57, "anew()", x.anew(), 40);
        due(54, "room for all", x.swap(0, 1) >= 0 ? 0 : 1, 0);
        due(62, "acts", x.count(3), 1);
        // Forty nights alone, and forty swaps alone.
        SwapTrophies y = hung(TWO + "law 0 with 1 each 1 from 0;");
        for (int i = 1; i <= 40; i++) {
            due(55, "night " + i, y.night(), i % 2 == 1 ? 0 : 2);
        }
        due(55, "a 41st night", y.night(), -5);
        due(58, "nights", y.nights(), 40);
        SwapTrophies z = hung(TWO);
        for (int i = 1; i <= 40; i++) {
            due(54, "swap " + i, z.swap(0, 1), i % 2 == 1 ? 0 : 2);
        }
        due(54, "a 41st swap", z.swap(0, 1), -5);
        take(z, TWO);
        due(54, "a new hall has room", z.swap(0, 1), 0);
    }

    /** Promise 55: a NIGHT without laws is an act, too. */
    private static void nightEdges() {
        SwapTrophies x = hung(THREE);
        due(55, "nothing changes", x.night(), 3);
        due(62, "an act", x.count(3), 1);
        due(58, "a night", x.nights(), 1);
        due(56, "taken back", x.undo(), 0);
        due(58, "no night", x.nights(), 0);
        // A night's number is that of the nights gone, swaps aside.
        SwapTrophies y = hung(TWO + "law 0 with 1 each 6 from 1;");
        due(55, "night 0", y.night(), 2);
        y.swap(0, 1);
        y.swap(0, 1);
        due(55, "night 1", y.night(), 0);
        due(55, "night 2", y.night(), 0);
    }

    /** Promise 56: "how many there are. -5: there is none; -2 likewise". */
    private static void undoEdges() {
        SwapTrophies x = hung(THREE + "law 0 with 1 each 1 from 0; law 1 with 2 each 1 from 0; law 0 with 2 each 2 from 1;");
        due(56, "none yet", x.undo(), -5);
        due(56, "none yet, again", x.undo(), -5);
        String[] was = new String[7];
        for (int i = 0; i < 4; i++) {
            was[i] = seen(x);
            due(54, "an act", (i == 2 ? x.swap(2, 0) : x.night()) >= 0 ? 0 : 1, 0);
        }
        for (int i = 3; i >= 0; i--) {
            due(56, "undo()", x.undo(), i);
            stays(56, "undo() to " + i, x, was[i]);
        }
        due(56, "none left", x.undo(), -5);
    }

    /** Promise 57: "All are: how many there were. -2 likewise". */
    private static void anewEdges() {
        SwapTrophies x = hung(THREE + "hang 2 0 1; law 0 with 1 each 1 from 0;");
        String was = seen(x);
        due(57, "there were none", x.anew(), 0);
        stays(57, "anew() of none", x, was);
        x.swap(0, 1);
        due(57, "there was one", x.anew(), 1);
        x.night();
        x.swap(0, 2);
        x.night();
        due(57, "there were three", x.anew(), 3);
        stays(57, "anew()", x, was);
        due(56, "none left", x.undo(), -5);
        due(57, "none left", x.anew(), 0);
        // Without a hang all come back to where they hang without, whatever hall was before.
        take(x, THREE);
        x.swap(0, 2);
        x.anew();
        due(57, "without a hang", x.rights(), 7);
        due(57, "without a hang, at once", anewOfTwo(), 3);
        SwapTrophies none = new SwapTrophies();
        due(57, "no hall", none.anew(), -2);
        due(56, "no hall", none.undo(), -2);
        due(55, "no hall", none.night(), -2);
        due(58, "no hall", none.nights(), -2);
    }

    private static int anewOfTwo() {
        SwapTrophies x = hung(TWO);
        x.swap(0, 1);
        x.anew();
        return x.rights();
    }

    /** Promise 58. */
    private static void nightsEdges() {
        SwapTrophies x = hung(THREE);
        due(58, "none", x.nights(), 0);
        x.swap(0, 1);
        due(58, "swaps are none", x.nights(), 0);
        x.night();
        x.night();
        due(58, "two", x.nights(), 2);
        x.swap(0, 1);
        x.undo();
        due(58, "a swap taken back", x.nights(), 2);
        x.undo();
        due(58, "a night taken back", x.nights(), 1);
        x.anew();
        due(58, "all taken back", x.nights(), 0);
    }

    /** "(at first it is the seed); a draw of n: x / 65536, cut, modulo n". */
    private static void drawnEdges() {
        SwapTrophies x = hung(SEVEN);
        int[][] rows = {{1, 0, 2, 3, 4, 5, 6}, {4, 0, 2, 6, 5, 1, 3}, {0, 1, 2, 3, 5, 4, 6}, {0, 1, 2, 3, 5, 6, 4}, {3, 1, 6, 5, 2, 0, 4},
            {0, 2, 6, 1, 3, 5, 4}};
        int[] seeds = {0, 0, MOST_SEED, MOST_SEED, MOST_SEED, MOST_SEED - 1};
        int[] counts = {1, 60, 1, 2, 60, 60};
        for (int i = 0; i < rows.length; i++) {
            for (int place = 0; place < 7; place++) {
                String call = "drawn(" + seeds[i] + ", " + counts[i] + ", " + rows[i][place] + ")";
                due(59, call, x.drawn(seeds[i], counts[i], rows[i][place]), place);
            }
        }
        for (int head = 0; head < 7; head++) {
            due(59, "no nights", x.drawn(MOST_SEED, 0, head), head);
        }
        // From now on, and nothing is done.
        x.swap(0, 6);
        String was = seen(x);
        due(59, "from now on", x.drawn(0, 1, 6), 1);
        due(59, "from now on", x.drawn(0, 1, 0), 6);
        due(59, "no nights", x.drawn(0, 0, 0), 6);
        stays(59, "drawn()", x, was);
        due(59, "of two they always change", hung(TWO).drawn(MOST_SEED, 59, 0), 1);
        due(59, "of two they always change", hung(TWO).drawn(MOST_SEED, 60, 0), 0);
    }

    /** Promise 59: "a seed (0 .. 2,000,000,000), n (0 .. 60) ... -2: there are none such". */
    private static void drawnBounds() {
        SwapTrophies x = hung(THREE);
        due(59, "the least", x.drawn(0, 0, 0), 0);
        due(59, "the most", x.drawn(MOST_SEED, 60, 2) >= 0 ? 0 : 1, 0);
        due(59, "a seed too great", x.drawn(MOST_SEED + 1, 0, 0), -2);
        due(59, "a night too many", x.drawn(0, 61, 0), -2);
        due(59, "no such head", x.drawn(0, 0, 3), -2);
        for (int k : NEVER) {
            due(59, "no such seed", x.drawn(k, 0, 0), -2);
            due(59, "no such n", x.drawn(0, k, 0), -2);
            due(59, "no such head", x.drawn(0, 0, k), -2);
        }
    }

    /** Promise 60: seeds beyond the greatest seed, "the seed and 1, ..", are drawn from, too. */
    private static void luckEdges() {
        SwapTrophies x = hung(SEVEN);
        int[] sixty = {2, 3, 2, 2, 5, 2, 4};
        int[] one = {15, 12, 15, 14, 12, 14, 18};
        int[] seven = {11, 4, 3, 3, 4, 3, 11};
        int[] alone = {1, 1, 1, 1, 0, 0, 1};
        for (int head = 0; head < 7; head++) {
            due(60, "20 seeds, 60 nights, head " + head, x.luck(MOST_SEED, 20, 60, head), sixty[head]);
            due(60, "20 seeds, 1 night, head " + head, x.luck(MOST_SEED, 20, 1, head), one[head]);
            due(60, "20 seeds, 7 nights, head " + head, x.luck(MOST_SEED, 20, 7, head), seven[head]);
            due(60, "the seed alone, head " + head, x.luck(MOST_SEED, 1, 1, head), alone[head]);
            due(60, "no nights", x.luck(0, 20, 0, head), 20);
        }
        due(60, "never right, no nights", hung(TWO + "hang 1 0;").luck(0, 20, 0, 0), 0);
        due(60, "always right, one night", hung(TWO + "hang 1 0;").luck(0, 20, 1, 0), 20);
        // As many as are drawn one by one.
        for (int head = 0; head < 7; head++) {
            int found = 0;
            for (int i = 0; i < 20; i++) {
                found += x.drawn(100 + i, 9, head) == head ? 1 : 0;
            }
            due(60, "one by one", x.luck(100, 20, 9, head), found);
        }
    }

    /** Promise 60: "m (1 .. 20) ... -2: there are none such". */
    private static void luckBounds() {
        SwapTrophies x = hung(THREE);
        due(60, "the least", x.luck(0, 1, 0, 0), 1);
        due(60, "the most", x.luck(MOST_SEED, 20, 60, 2) >= 0 ? 0 : 1, 0);
        due(60, "a seed too great", x.luck(MOST_SEED + 1, 1, 0, 0), -2);
        due(60, "none of them", x.luck(0, 0, 0, 0), -2);
        due(60, "one too many", x.luck(0, 21, 0, 0), -2);
        due(60, "a night too many", x.luck(0, 1, 61, 0), -2);
        due(60, "no such head", x.luck(0, 1, 0, 3), -2);
        for (int k : NEVER) {
            due(60, "no such seed", x.luck(k, 1, 0, 0), -2);
            due(60, "no such m", x.luck(0, k, 0, 0), -2);
            due(60, "no such n", x.luck(0, 1, k, 0), -2);
            due(60, "no such head", x.luck(0, 1, 0, k), -2);
        }
    }

    /** Promise 61: "is n (0 .. 99) from now on: what it was". */
    private static void tellEdges() {
        SwapTrophies x = hung(SEVEN);
        due(61, "the most", x.tell(6, 6, 99), 0);
        due(61, "what it was", x.tell(6, 6, 0), 99);
        due(61, "the least", x.tell(6, 6, 0), 0);
        due(61, "head, then place", x.tell(6, 0, 7), 0);
        due(61, "head, then place", x.suits(0, 6), 0);
        due(61, "head, then place", x.suits(6, 0), 7);
        due(61, "it counts", x.best(), 7);
        due(61, "it is no act", x.count(3), 0);
        due(61, "it is no line", x.count(4), 1);
        due(61, "nothing to take back", x.undo(), -5);
    }

    /** Promise 61: "-5: there were acts; -2: there are none such". */
    private static void tellRefuses() {
        SwapTrophies x = hung(THREE + "suit 0 0 5;");
        String was = seen(x);
        for (int k : new int[] {3, -1, Integer.MIN_VALUE, Integer.MAX_VALUE}) {
            due(61, "no such head", x.tell(k, 0, 1), -2);
            due(61, "no such place", x.tell(0, k, 1), -2);
        }
        for (int n : new int[] {100, -1, Integer.MIN_VALUE, Integer.MAX_VALUE}) {
            due(61, "no such n", x.tell(0, 0, n), -2);
        }
        stays(61, "tell() of none such", x, was);
        x.night();
        due(61, "behind a night", x.tell(0, 0, 1), -5);
        due(61, "none such, behind a night", x.tell(0, 0, 100), -2);
        x.undo();
        stays(61, "tell() behind acts", x, was);
        x.swap(0, 1);
        due(61, "behind a swap", x.tell(0, 0, 1), -5);
        x.swap(0, 1);
        due(61, "behind a swap and back", x.tell(0, 0, 1), -5);
        x.anew();
        due(61, "all taken back", x.tell(0, 0, 1), 5);
        due(61, "no hall", new SwapTrophies().tell(0, 0, 0), -2);
    }

    /** Promise 62: "NONE for others", and what each of them counts. */
    private static void countEdges() {
        SwapTrophies x = new SwapTrophies();
        for (int round = 0; round < 2; round++) {
            for (int what : new int[] {7, 8, -1, -2, Integer.MIN_VALUE, Integer.MAX_VALUE}) {
                due(62, "count(" + what + ")", x.count(what), -1);
            }
            take(x, SEVEN);
        }
        due(62, "places", x.count(0), 7);
        for (int slot = 0; slot < 4; slot++) {
            x.row(slot, 0, 0);
            x.row(slot, 3, 60);
            due(62, "slots that have a row", x.count(6), slot + 1);
        }
        x.feed(0, 0, 0, 0, 0);
        due(62, "bytes of the tape", x.count(5), 20);
        x.end(1);
        due(62, "bytes of the tape", x.count(5), 1);
    }

    /** Promises 63, 64: "-2: no such k; -6: it has nothing". */
    private static void imageBounds() {
        SwapTrophies x = hung(THREE);
        String was = seen(x);
        for (int k : new int[] {3, -1, Integer.MIN_VALUE, Integer.MAX_VALUE}) {
            due(63, "no such k", x.image(k), -2);
            due(64, "no such k", x.back(k), -2);
        }
        for (int k = 0; k < 3; k++) {
            due(64, "it has nothing", x.back(k), -6);
        }
        stays(64, "back() to nothing", x, was);
        for (int k = 0; k < 3; k++) {
            due(63, "image(" + k + ")", x.image(k), 0);
            due(64, "back(" + k + ")", x.back(k), 0);
            due(64, "the others have nothing", x.back(2), k == 2 ? 0 : -6);
        }
    }

    /** Promises 63, 64: "keeps the HALL, and acts"; "It is as IMAGE k has it". */
    private static void imageKeeps() {
        SwapTrophies x = hung(SEVEN + "hang 6 5 4 3 2 1 0; law 0 with 6 each 1 from 0; leap 2; suit 3 3 33; apart 1 2;");
        x.tell(4, 4, 44);
        for (int i = 0; i < 40; i++) {
            if (i % 3 == 0) {
                x.night();
            } else {
                x.swap(i % 7, (i + 1) % 7);
            }
        }
        x.image(0);
        String full = seen(x);
        x.anew();
        x.tell(4, 4, 45);
        x.image(1);
        String anew = seen(x);
        take(x, THREE);
        due(64, "back(0)", x.back(0), 0);
        stays(64, "40 acts, kept", x, full);
        due(64, "no room for one more", x.night(), -5);
        for (int i = 39; i >= 0; i--) {
            due(64, "acts, taken back", x.undo(), i);
        }
        due(64, "the first row, kept", x.at(0), 6);
        due(64, "leaps, kept", x.reach(), 4);
        due(64, "what was told, kept", x.suits(4, 4), 44);
        due(64, "back(1)", x.back(1), 0);
        stays(64, "no acts, kept", x, anew);
        due(64, "what was told later, kept", x.suits(4, 4), 45);
        x.swap(0, 1);
        due(64, "an image is no part of the hall", x.back(1), 0);
        due(64, "no acts", x.count(3), 0);
        x.night();
        x.image(1);
        x.undo();
        due(63, "an image in place of another", x.back(1), 0);
        due(63, "an image in place of another", x.count(3), 1);
        // Acts of the image are taken back then, not those that came behind it.
        take(x, THREE);
        x.swap(0, 1);
        x.swap(1, 2);
        x.image(2);
        x.anew();
        x.night();
        x.night();
        x.back(2);
        due(64, "1 2 0, kept", x.at(0), 1);
        due(64, "the acts of the image", x.undo(), 1);
        due(64, "1 0 2", x.at(1), 0);
        due(64, "the acts of the image", x.undo(), 0);
        due(64, "0 1 2", x.rights(), 7);
    }

    /** Promises 63, 64: an object without a HALL can be kept, too; TAPE and SLOTS are none of it. */
    private static void imageOfNone() {
        SwapTrophies x = new SwapTrophies();
        due(63, "image of no hall", x.image(2), 0);
        take(x, THREE + "law 0 with 1 each 1 from 0; apart 0 1;");
        x.night();
        x.row(3, 1, 5);
        put(x, "hall");
        due(64, "back to no hall", x.back(2), 0);
        int[] counts = {0, 0, 0, 0, 0, 4, 1};
        for (int what = 0; what <= 6; what++) {
            due(64, "count(" + what + ")", x.count(what), counts[what]);
        }
        due(64, "no hall", x.rights(), -2);
        due(64, "no acts", x.undo(), -2);
        due(64, "no nights", x.nights(), -2);
    }
}
