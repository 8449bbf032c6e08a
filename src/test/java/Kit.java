/** What the hand-worked tests share: how to put a text on the tape, fill a slot, and tell a wrong answer. */
abstract class Kit {
    private static int wrong = 0;

    static void due(int promise, String call, long got, long want) {
        if (got != want) {
            wrong++;
            System.out.println("promise " + promise + ": " + call + " answered " + got + ", due is " + want);
        }
    }

    static void finish(String fine) {
        System.out.println(wrong == 0 ? fine : wrong + " answers are not as promised");
        if (wrong != 0) {
            System.exit(1);
        }
    }

    /** A new object with this hall. */
    static SwapTrophies hung(String text) {
        SwapTrophies x = new SwapTrophies();
        take(x, text);
        return x;
    }

    /** This hall in place of another. */
    static void take(SwapTrophies x, String text) {
        put(x, text);
        if (x.hall() <= 0) {
            wrong++;
            System.out.println("not taken: " + text + ", fault " + x.fault(0) + " at " + x.fault(1));
        }
    }

    /** Feeds a text behind what the tape has. */
    static void put(SwapTrophies x, String text) {
        int had = x.count(5);
        for (int i = 0; i < text.length(); i += 20) {
            int[] v = new int[5];
            for (int j = 0; j < 20; j++) {
                int b = i + j < text.length() ? text.charAt(i + j) : 0;
                v[j / 4] = v[j / 4] << 8 | b;
            }
            x.feed(v[0], v[1], v[2], v[3], v[4]);
        }
        x.end(had + text.length());
    }

    static void rowOf(SwapTrophies x, int slot, int width, long... numbers) {
        due(65, "row", x.row(slot, width, numbers.length), 0);
        for (int i = 0; i < numbers.length; i++) {
            due(66, "write", x.write(slot, i, numbers[i]), 0);
        }
    }

    /** A text that is refused with this fault at this place; one behind it is not. */
    static void fault(String text, int kind, int place) {
        SwapTrophies x = new SwapTrophies();
        put(x, text);
        due(4, "hall() of " + text, x.hall(), -4);
        due(5, "fault(0) of " + text, x.fault(0), kind);
        due(5, "fault(1) of " + text, x.fault(1), place);
        due(5, "fault(2)", x.fault(2), -1);
        due(5, "fault(-1)", x.fault(-1), -1);
        x.end(0);
        x.hall();
        due(5, "fault(0) of a good one behind it", x.fault(0), 0);
        due(5, "fault(1) of a good one behind it", x.fault(1), -1);
    }

    /** All that can be seen of a hall, its acts, the tape's length and the slots' number (some 90 calls). */
    static String seen(SwapTrophies x) {
        StringBuilder all = new StringBuilder();
        for (int what = 0; what <= 6; what++) {
            all.append(x.count(what)).append(' ');
        }
        all.append(x.nights()).append(" row");
        int places = x.count(0);
        for (int i = 0; i < places; i++) {
            all.append(' ').append(x.at(i)).append('/').append(x.apart(i));
            for (int place = 0; place < places; place++) {
                all.append(',').append(x.suits(i, place));
            }
        }
        for (int law = 0; law < x.count(1); law++) {
            all.append(" law");
            for (int what = 0; what < 4; what++) {
                all.append(' ').append(x.law(law, what));
            }
        }
        return all.toString();
    }

    static void stays(int promise, String behind, SwapTrophies x, String was) {
        String is = seen(x);
        due(promise, behind + ": it was " + was + " and is " + is + ";", is.equals(was) ? 0 : 1, 0);
    }
}
