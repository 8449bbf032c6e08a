import java.util.Arrays;

/** A hall of trophy heads that change places by night, as the document's promises 1 to 67 tell. */
public final class SwapTrophies {
    public static final int NONE = -1;

    private static final int NO_SUCH = -2;
    private static final int BELOW_ZERO = -3;
    private static final int FAULTY = -4;
    private static final int BY_ACTS = -5;
    private static final int NOTHING = -6;
    private static final int BEYOND = -7;
    private static final int UNLIKE = -8;

    private static final int MAX_PLACES = 7;
    private static final int MAX_LAWS = 6;
    private static final int MAX_LEAP = 6;
    private static final int MAX_ACTS = 40;
    private static final int MAX_SUIT = 99;
    private static final int IMAGES = 3;
    private static final int FAR_NIGHTS = 1_000_000_000;
    private static final int NEAR_NIGHTS = 5_000;
    private static final int SEEN_NIGHTS = 999;
    private static final int LOT_NIGHTS = 12;
    private static final int DRAWN_NIGHTS = 60;
    private static final int MAX_SEED = 2_000_000_000;
    private static final int MAX_SEEDS = 20;

    // All that hangs comes again in at most 720 nights: the laws come again every 60 nights (1 .. 6
    // all divide 60), and no change of 7 places needs more than 12 turns to come round. A first
    // night of 0 .. 5,000 is therefore within these, or there is none.
    private static final int COME_AGAIN = 720;

    private static final int[] RIGHT_ROW = {0, 1, 2, 3, 4, 5, 6};
    private static final int[] FACTORIALS = {1, 1, 2, 6, 24, 120, 720, 5040};

    private final Tape tape;
    private final Hall hall;
    private final Hall draft;
    private final Hall[] images;
    private final boolean[] kept;
    private final Slots slots;
    private final Course course;
    private final Sight sight;
    private final Parting parting;
    private final Suiting suiting;
    private final Game game;
    private final Lots lots;
    private final int[] told;
    private final int[] tried;
    private Slider slider;

    public SwapTrophies() {
        tape = new Tape();
        hall = new Hall();
        draft = new Hall();
        images = new Hall[IMAGES];
        for (int k = 0; k < IMAGES; k++) {
            images[k] = new Hall();
        }
        kept = new boolean[IMAGES];
        slots = new Slots();
        course = new Course();
        sight = new Sight();
        parting = new Parting();
        suiting = new Suiting();
        game = new Game();
        lots = new Lots();
        told = new int[MAX_PLACES];
        tried = new int[MAX_PLACES];
        slider = null;
    }

    // ---- the text

    public int feed(int a, int b, int c, int d, int e) {
        if (!tape.hasRoom()) {
            return NONE;
        }
        tape.put(a);
        tape.put(b);
        tape.put(c);
        tape.put(d);
        tape.put(e);
        return tape.size;
    }

    public int end(int n) {
        if (n < 0 || n > tape.size) {
            return NONE;
        }
        tape.size = n;
        return n;
    }

    public int hall() {
        tape.readInto(draft);
        if (tape.fault != 0) {
            return FAULTY;
        }
        tape.size = 0;
        hall.become(draft);
        return hall.lines;
    }

    public int fault(int what) {
        if (what == 0) {
            return tape.fault;
        }
        return what == 1 ? tape.faultPlace : NONE;
    }

    // ---- what was told

    public int law(int law, int what) {
        if (law < 0 || law >= hall.lawCount) {
            return NO_SUCH;
        }
        switch (what) {
            case 0:
                return hall.lawPlace[law];
            case 1:
                return hall.lawOther[law];
            case 2:
                return hall.lawEach[law];
            case 3:
                return hall.lawFrom[law];
            default:
                return NO_SUCH;
        }
    }

    public int suits(int head, int place) {
        if (!hall.holds(head) || !hall.holds(place)) {
            return NO_SUCH;
        }
        return hall.suitOf(head, place);
    }

    public int apart(int head) {
        return hall.holds(head) ? hall.foes[head] : NO_SUCH;
    }

    // ---- how it hangs, now and later

    public int at(int place) {
        return hall.holds(place) ? hall.now[place] : NO_SUCH;
    }

    public int where(int head) {
        return hall.holds(head) ? hall.placeOf(head) : NO_SUCH;
    }

    public int later(int place, int n) {
        if (!hall.holds(place) || !within(n, 0, FAR_NIGHTS)) {
            return NO_SUCH;
        }
        course.begin(hall);
        course.goOn(n);
        return course.row[place];
    }

    public int right(int n) {
        if (hall.isNone() || !within(n, 0, FAR_NIGHTS)) {
            return NO_SUCH;
        }
        course.begin(hall);
        course.goOn(n);
        return Rows.rightCount(course.row, hall.places);
    }

    public int rights() {
        return hall.isNone() ? NO_SUCH : Rows.rightBits(hall.now, hall.places);
    }

    public int whole() {
        if (hall.isNone()) {
            return NO_SUCH;
        }
        course.begin(hall);
        for (int n = 0; n <= COME_AGAIN; n++) {
            if (Rows.alike(course.row, RIGHT_ROW, hall.places)) {
                return n;
            }
            course.goOneNight();
        }
        return NONE;
    }

    public int round() {
        if (hall.isNone()) {
            return NO_SUCH;
        }
        course.begin(hall);
        for (int n = 1; n <= COME_AGAIN; n++) {
            course.goOneNight();
            if (Rows.alike(course.row, hall.now, hall.places)) {
                return n;
            }
        }
        return NONE;
    }

    public int comes(int head, int place) {
        if (!hall.holds(head) || !hall.holds(place)) {
            return NO_SUCH;
        }
        course.begin(hall);
        for (int n = 0; n <= COME_AGAIN; n++) {
            if (course.row[place] == head) {
                return n;
            }
            course.goOneNight();
        }
        return NONE;
    }

    public int meet(int head, int other) {
        if (!hall.holds(head) || !hall.holds(other) || head == other) {
            return NO_SUCH;
        }
        course.begin(hall);
        for (int n = 0; n <= COME_AGAIN; n++) {
            if (Rows.areBeside(course.row, hall.places, head, other)) {
                return n;
            }
            course.goOneNight();
        }
        return NONE;
    }

    public int tonight(int n) {
        if (hall.isNone() || !within(n, 0, FAR_NIGHTS)) {
            return NO_SUCH;
        }
        return hall.lawsIn(hall.nightsGone + n);
    }

    // ---- how far from right

    public int odd() {
        return hall.isNone() ? NO_SUCH : swapsTo(RIGHT_ROW) & 1;
    }

    public int swaps() {
        return hall.isNone() ? NO_SUCH : swapsTo(RIGHT_ROW);
    }

    public int steps() {
        return hall.isNone() ? NO_SUCH : Rows.crossings(hall.now, hall.places);
    }

    public int rings() {
        if (hall.isNone()) {
            return NO_SUCH;
        }
        int found = 0;
        for (int head = 0; head < hall.places; head++) {
            int bits = Rows.ringBits(hall.now, hall.places, head);
            boolean isLeast = (bits & (1 << head) - 1) == 0;
            if (isLeast && Integer.bitCount(bits) > 1) {
                found++;
            }
        }
        return found;
    }

    public int stay() {
        return hall.isNone() ? NO_SUCH : Rows.longestRise(hall.now, hall.places, tried);
    }

    public int ring(int head) {
        return hall.holds(head) ? Rows.ringBits(hall.now, hall.places, head) : NO_SUCH;
    }

    public int away(int head) {
        return hall.holds(head) ? Math.abs(hall.placeOf(head) - head) : NO_SUCH;
    }

    public int lost() {
        if (hall.isNone()) {
            return NO_SUCH;
        }
        int found = NONE;
        int farthest = 0;
        for (int head = 0; head < hall.places; head++) {
            int distance = Math.abs(hall.placeOf(head) - head);
            if (distance > farthest) {
                farthest = distance;
                found = head;
            }
        }
        return found;
    }

    public int beside(int head) {
        if (!hall.holds(head)) {
            return NO_SUCH;
        }
        int place = hall.placeOf(head);
        int bits = 0;
        if (hall.holds(place - 1)) {
            bits |= 1 << hall.now[place - 1];
        }
        if (hall.holds(place + 1)) {
            bits |= 1 << hall.now[place + 1];
        }
        return bits;
    }

    public int quarrels() {
        if (hall.isNone()) {
            return NO_SUCH;
        }
        int found = 0;
        for (int place = 1; place < hall.places; place++) {
            if (hall.areFoes(hall.now[place - 1], hall.now[place])) {
                found++;
            }
        }
        return found;
    }

    public int finest(int n) {
        if (hall.isNone() || !within(n, 0, NEAR_NIGHTS)) {
            return NO_SUCH;
        }
        course.begin(hall);
        int last = Math.min(n, COME_AGAIN);
        int found = 0;
        int most = NONE;
        for (int i = 0; i <= last; i++) {
            int rightOnes = Rows.rightCount(course.row, hall.places);
            if (rightOnes > most) {
                most = rightOnes;
                found = i;
            }
            course.goOneNight();
        }
        return found;
    }

    public int spells(int head, int n) {
        if (!hall.holds(head) || !within(n, 0, NEAR_NIGHTS)) {
            return NO_SUCH;
        }
        course.begin(hall);
        int found = 0;
        for (int i = 0; i < n; i++) {
            course.goOneNight();
            if (course.row[head] == head) {
                found++;
            }
        }
        return found;
    }

    // ---- leaps of the blank to a told row

    public int slide(int slot) {
        int refused = readTold(slot);
        if (refused != 0) {
            return refused;
        }
        Slider ready = readySlider();
        ready.aimAt(hall, told);
        return ready.leapsFrom(hall.now);
    }

    public int slides(int slot, int i) {
        int refused = readTold(slot);
        if (refused != 0) {
            return refused;
        }
        Slider ready = readySlider();
        ready.aimAt(hall, told);
        return ready.placeOfLeap(hall.now, i);
    }

    public int reach() {
        if (hall.isNone()) {
            return NO_SUCH;
        }
        Slider ready = readySlider();
        ready.aimAt(hall, hall.now);
        return ready.rowsReached();
    }

    public int far() {
        if (hall.isNone()) {
            return NO_SUCH;
        }
        Slider ready = readySlider();
        ready.aimAt(hall, hall.now);
        return ready.mostLeaps();
    }

    // ---- how it hung at first by what was seen

    public int fits(int slot) {
        int refused = readSeen(slot);
        return refused != 0 ? refused : sight.rowsLeft();
    }

    public int fit(int slot, int place) {
        if (!hall.holds(place)) {
            return NO_SUCH;
        }
        int refused = readSeen(slot);
        return refused != 0 ? refused : sight.leastRowHead(place);
    }

    public int ask(int slot) {
        int refused = readSeen(slot);
        return refused != 0 ? refused : sight.placeToAsk();
    }

    public int leaves(int slot) {
        int refused = readSeen(slot);
        return refused != 0 ? refused : sight.rowsLeftIfAsked();
    }

    // ---- what was changed, what was skipped

    public int changed(int slot) {
        int refused = readTold(slot);
        return refused != 0 ? refused : swapsTo(told);
    }

    public int same(int slot) {
        int refused = readTold(slot);
        if (refused != 0) {
            return refused;
        }
        int bits = 0;
        for (int place = 0; place < hall.places; place++) {
            if (told[place] == hall.now[place]) {
                bits |= 1 << place;
            }
        }
        return bits;
    }

    public int skipped(int slot) {
        int refused = readTold(slot);
        if (refused != 0) {
            return refused;
        }
        int laws = hall.lawsIn(hall.nightsGone);
        int fewest = NONE;
        for (int left = 0; left < 1 << MAX_LAWS; left++) {
            boolean applies = (left & ~laws) == 0;
            boolean isFewer = fewest == NONE || Integer.bitCount(left) < fewest;
            if (applies && isFewer && leadsToTold(laws & ~left)) {
                fewest = Integer.bitCount(left);
            }
        }
        return fewest;
    }

    // ---- hangings that part, that suit best

    public int hangs() {
        if (hall.isNone()) {
            return NO_SUCH;
        }
        parting.prepare(hall);
        return parting.rowsInAll();
    }

    public int hang(int place) {
        if (!hall.holds(place)) {
            return NO_SUCH;
        }
        parting.prepare(hall);
        return parting.leastRowHead(place);
    }

    public int parts() {
        if (hall.isNone()) {
            return NO_SUCH;
        }
        parting.prepare(hall);
        return parting.fewestSwaps();
    }

    public int best() {
        if (hall.isNone()) {
            return NO_SUCH;
        }
        suiting.prepare(hall);
        return suiting.sums[0];
    }

    public int bests(int place) {
        if (!hall.holds(place)) {
            return NO_SUCH;
        }
        suiting.prepare(hall);
        return suiting.leastRowHead(place);
    }

    public int ways() {
        if (hall.isNone()) {
            return NO_SUCH;
        }
        suiting.prepare(hall);
        return suiting.rowCounts[0];
    }

    public int suit() {
        return hall.isNone() ? NO_SUCH : hall.suitSum();
    }

    public int trade() {
        if (hall.isNone()) {
            return NO_SUCH;
        }
        int found = NONE;
        int most = 0;
        for (int place = 0; place < hall.places; place++) {
            for (int other = place + 1; other < hall.places; other++) {
                int gain = hall.suitGain(place, other);
                if (gain > most) {
                    most = gain;
                    found = 10 * place + other;
                }
            }
        }
        return found;
    }

    // ---- the game of the blank, and nights by lot

    public int wins(int place) {
        if (!hall.holds(place)) {
            return NO_SUCH;
        }
        game.prepare(hall);
        return game.isWon(1 << place, place) ? 1 : 0;
    }

    public int takes(int place) {
        if (!hall.holds(place)) {
            return NO_SUCH;
        }
        game.prepare(hall);
        return game.bestLead(place);
    }

    public long chance(int place, int n, int what) {
        if (!hall.holds(place) || !within(n, 0, LOT_NIGHTS) || !within(what, 0, 1)) {
            return NO_SUCH;
        }
        lots.spread(hall, n);
        long above = lots.cases[place];
        long shared = Lots.commonDivisor(lots.allCases, above);
        if (shared <= 0) {
            return NO_SUCH;
        }
        return (what == 0 ? above : lots.allCases) / shared;
    }

    public int likely(int n) {
        if (hall.isNone() || !within(n, 0, LOT_NIGHTS)) {
            return NO_SUCH;
        }
        lots.spread(hall, n);
        int found = 0;
        for (int place = 1; place < hall.places; place++) {
            if (lots.cases[place] > lots.cases[found]) {
                found = place;
            }
        }
        return found;
    }

    // ---- acts

    public int swap(int place, int other) {
        if (!hall.holds(place) || !hall.holds(other) || place == other) {
            return NO_SUCH;
        }
        if (!hall.canAct()) {
            return BY_ACTS;
        }
        hall.actSwap(place, other);
        return Rows.rightCount(hall.now, hall.places);
    }

    public int night() {
        if (hall.isNone()) {
            return NO_SUCH;
        }
        if (!hall.canAct()) {
            return BY_ACTS;
        }
        hall.actNight();
        return Rows.rightCount(hall.now, hall.places);
    }

    public int undo() {
        if (hall.isNone()) {
            return NO_SUCH;
        }
        if (hall.actCount == 0) {
            return BY_ACTS;
        }
        hall.takeBack();
        return hall.actCount;
    }

    public int anew() {
        if (hall.isNone()) {
            return NO_SUCH;
        }
        int were = hall.actCount;
        hall.takeAllBack();
        return were;
    }

    public int nights() {
        return hall.isNone() ? NO_SUCH : hall.nightsGone;
    }

    public int drawn(int seed, int n, int head) {
        if (!hall.holds(head) || !within(seed, 0, MAX_SEED) || !within(n, 0, DRAWN_NIGHTS)) {
            return NO_SUCH;
        }
        return Lots.placeDrawn(seed, n, hall.placeOf(head), hall.places);
    }

    public int luck(int seed, int m, int n, int head) {
        if (!hall.holds(head) || !within(seed, 0, MAX_SEED) || !within(n, 0, DRAWN_NIGHTS)) {
            return NO_SUCH;
        }
        if (!within(m, 1, MAX_SEEDS)) {
            return NO_SUCH;
        }
        int place = hall.placeOf(head);
        int found = 0;
        for (int i = 0; i < m; i++) {
            if (Lots.placeDrawn(seed + i, n, place, hall.places) == head) {
                found++;
            }
        }
        return found;
    }

    public int tell(int head, int place, int n) {
        if (!hall.holds(head) || !hall.holds(place) || !within(n, 0, MAX_SUIT)) {
            return NO_SUCH;
        }
        if (hall.actCount > 0) {
            return BY_ACTS;
        }
        int was = hall.suitOf(head, place);
        hall.setSuit(head, place, n);
        return was;
    }

    public int count(int what) {
        switch (what) {
            case 0:
                return hall.places;
            case 1:
                return hall.lawCount;
            case 2:
                return hall.foePairs();
            case 3:
                return hall.actCount;
            case 4:
                return hall.lines;
            case 5:
                return tape.size;
            case 6:
                return slots.filled();
            default:
                return NONE;
        }
    }

    // ---- images and slots

    public int image(int k) {
        if (!within(k, 0, IMAGES - 1)) {
            return NO_SUCH;
        }
        images[k].become(hall);
        kept[k] = true;
        return 0;
    }

    public int back(int k) {
        if (!within(k, 0, IMAGES - 1)) {
            return NO_SUCH;
        }
        if (!kept[k]) {
            return NOTHING;
        }
        hall.become(images[k]);
        return 0;
    }

    public int row(int slot, int width, int n) {
        if (!Slots.isSlot(slot) || !Slots.isWidth(width) || n > Slots.LONGEST) {
            return NO_SUCH;
        }
        if (n < 0) {
            return BELOW_ZERO;
        }
        slots.make(slot, width, n);
        return 0;
    }

    public int write(int slot, int i, long v) {
        if (!Slots.isSlot(slot)) {
            return NO_SUCH;
        }
        if (!slots.isFilled(slot)) {
            return NOTHING;
        }
        if (i < 0 || i >= slots.lengths[slot]) {
            return BEYOND;
        }
        slots.numbers[slot][i] = Slots.cut(v, slots.widths[slot]);
        return 0;
    }

    public int paste(int slot, int i, int to, int k, int n) {
        if (!Slots.isSlot(slot) || !Slots.isSlot(to)) {
            return NO_SUCH;
        }
        if (!slots.isFilled(slot) || !slots.isFilled(to)) {
            return NOTHING;
        }
        if (slots.widths[slot] != slots.widths[to]) {
            return UNLIKE;
        }
        if (!slots.covers(slot, i, n) || !slots.covers(to, k, n)) {
            return BEYOND;
        }
        System.arraycopy(slots.numbers[slot], i, slots.numbers[to], k, n);
        return 0;
    }

    // ---- what several promises share

    private static boolean within(int n, int least, int most) {
        return n >= least && n <= most;
    }

    /** Most halls are never slid in, so its wide tables are made only when they are asked for. */
    private Slider readySlider() {
        if (slider == null) {
            slider = new Slider();
        }
        return slider;
    }

    private int swapsTo(int[] wanted) {
        return Rows.swapsBetween(hall.now, wanted, hall.places, tried);
    }

    /** Reads a SLOT's row of all HEADS into told: 0, or the answer that refuses it. */
    private int readTold(int slot) {
        if (!Slots.isSlot(slot) || hall.isNone()) {
            return NO_SUCH;
        }
        if (!slots.isFilled(slot)) {
            return NOTHING;
        }
        return slots.readHeads(slot, hall.places, told) ? 0 : NO_SUCH;
    }

    /** Reads a SLOT's row of what was seen into sight: 0, or the answer that refuses it. */
    private int readSeen(int slot) {
        if (!Slots.isSlot(slot) || hall.isNone()) {
            return NO_SUCH;
        }
        if (!slots.isFilled(slot)) {
            return NOTHING;
        }
        return sight.take(hall, slots, slot, course) ? 0 : NO_SUCH;
    }

    private boolean leadsToTold(int laws) {
        System.arraycopy(hall.now, 0, tried, 0, MAX_PLACES);
        hall.changeOver(tried, laws);
        return Rows.alike(tried, told, hall.places);
    }

    /** The bytes that were fed, and how they are read as a HALL. */
    private static final class Tape {
        private static final int ROOM = 800;
        private static final int CHUNK = 20;
        // Any number of more digits is out of every bound; it must only not wrap around.
        private static final int HUGE = 1_000_000;

        private static final int END = 0;
        private static final int WORD = 1;
        private static final int NUMBER = 2;
        private static final int SIGN = 3;
        private static final int STRANGE = 4;

        private static final int MISPLACED = 1;
        private static final int OUT_OF_BOUNDS = 2;
        private static final int TOO_MANY_LAWS = 3;

        final byte[] bytes = new byte[ROOM];
        int size = 0;
        int fault = 0;
        int faultPlace = NONE;

        private int next = 0;
        private int kind = END;
        private int start = 0;
        private int stop = 0;
        private int value = 0;
        private int accepted = 0;

        boolean hasRoom() {
            return size >= 0 && size + CHUNK <= ROOM;
        }

        void put(int four) {
            for (int shift = 24; shift >= 0 && size < ROOM; shift -= 8) {
                bytes[size] = (byte) (four >> shift);
                size++;
            }
        }

        void readInto(Hall hall) {
            fault = 0;
            faultPlace = NONE;
            next = 0;
            hall.clear();
            readToken();
            for (int i = 0; i <= ROOM && kind != END && fault == 0; i++) {
                readLine(hall);
            }
            if (hall.leaps == 0) {
                hall.leaps = 1 << 1;
            }
        }

        private void readLine(Hall hall) {
            boolean isRead;
            if (hall.lines == 0) {
                isRead = readPlaces(hall);
            } else if (isWord("hang")) {
                isRead = readHang(hall);
            } else if (isWord("law")) {
                isRead = readLaw(hall);
            } else if (isWord("leap")) {
                isRead = readLeap(hall);
            } else if (isWord("suit")) {
                isRead = readSuit(hall);
            } else if (isWord("apart")) {
                isRead = readApart(hall);
            } else {
                isRead = refuse(MISPLACED);
            }
            if (isRead && passSign()) {
                hall.lines++;
            }
        }

        private boolean readPlaces(Hall hall) {
            if (!passWord("hall") || !passWord("places") || !passNumber(2, MAX_PLACES, 0)) {
                return false;
            }
            hall.setPlaces(accepted);
            return true;
        }

        private boolean readHang(Hall hall) {
            readToken();
            int used = 0;
            for (int place = 0; place < hall.places; place++) {
                if (!passNumber(0, hall.places - 1, used)) {
                    return false;
                }
                used |= 1 << accepted;
                hall.first[place] = accepted;
                hall.now[place] = accepted;
            }
            return true;
        }

        private boolean readLaw(Hall hall) {
            int law = hall.lawCount;
            if (law >= MAX_LAWS) {
                return refuse(TOO_MANY_LAWS);
            }
            readToken();
            int last = hall.places - 1;
            if (!passNumber(0, last, 0)) {
                return false;
            }
            hall.lawPlace[law] = accepted;
            if (!passWord("with") || !passNumber(0, last, 1 << accepted)) {
                return false;
            }
            hall.lawOther[law] = accepted;
            if (!passWord("each") || !passNumber(1, 6, 0)) {
                return false;
            }
            hall.lawEach[law] = accepted;
            if (!passWord("from") || !passNumber(0, accepted - 1, 0)) {
                return false;
            }
            hall.lawFrom[law] = accepted;
            hall.lawCount++;
            return true;
        }

        private boolean readLeap(Hall hall) {
            readToken();
            if (!passNumber(1, MAX_LEAP, 0)) {
                return false;
            }
            hall.leaps |= 1 << accepted;
            return true;
        }

        private boolean readSuit(Hall hall) {
            readToken();
            int last = hall.places - 1;
            if (!passNumber(0, last, 0)) {
                return false;
            }
            int head = accepted;
            if (!passNumber(0, last, 0)) {
                return false;
            }
            int place = accepted;
            if (!passNumber(0, MAX_SUIT, 0)) {
                return false;
            }
            hall.setSuit(head, place, accepted);
            return true;
        }

        private boolean readApart(Hall hall) {
            readToken();
            int last = hall.places - 1;
            if (!passNumber(0, last, 0)) {
                return false;
            }
            int head = accepted;
            if (!passNumber(0, last, 1 << head)) {
                return false;
            }
            hall.setFoes(head, accepted);
            return true;
        }

        private boolean passWord(String wanted) {
            if (!isWord(wanted)) {
                return refuse(MISPLACED);
            }
            readToken();
            return true;
        }

        private boolean passSign() {
            if (kind != SIGN) {
                return refuse(MISPLACED);
            }
            readToken();
            return true;
        }

        /** A number of these bounds that is none of the barred ones (bits; they are all below 7). */
        private boolean passNumber(int least, int most, int barred) {
            if (kind != NUMBER) {
                return refuse(MISPLACED);
            }
            boolean isBarred = value < MAX_PLACES && (barred >> value & 1) != 0;
            if (value < least || value > most || isBarred) {
                return refuse(OUT_OF_BOUNDS);
            }
            accepted = value;
            readToken();
            return true;
        }

        private boolean refuse(int why) {
            fault = why;
            faultPlace = start;
            return false;
        }

        private boolean isWord(String wanted) {
            if (kind != WORD || stop - start != wanted.length()) {
                return false;
            }
            for (int i = 0; i < wanted.length(); i++) {
                if (bytes[start + i] != wanted.charAt(i)) {
                    return false;
                }
            }
            return true;
        }

        private void readToken() {
            while (next < size && isBlank(bytes[next])) {
                next++;
            }
            start = next;
            value = 0;
            if (next >= size) {
                kind = END;
            } else if (isLetter(bytes[next])) {
                kind = WORD;
                while (next < size && isLetter(bytes[next])) {
                    next++;
                }
            } else if (isDigit(bytes[next])) {
                kind = NUMBER;
                while (next < size && isDigit(bytes[next])) {
                    value = Math.min(HUGE, 10 * value + (bytes[next] - '0'));
                    next++;
                }
            } else {
                kind = bytes[next] == ';' ? SIGN : STRANGE;
                next++;
            }
            stop = next;
        }

        private static boolean isBlank(int b) {
            return b == 32 || b == 10;
        }

        private static boolean isLetter(int b) {
            return b >= 'a' && b <= 'z';
        }

        private static boolean isDigit(int b) {
            return b >= '0' && b <= '9';
        }
    }

    /** A HALL: what was told, how it hangs now, and the acts that led there. */
    private static final class Hall {
        private static final int NIGHT_ACT = -1;
        private static final int SWAP_BASE = 8;

        int places = 0;
        int lines = 0;
        int leaps = 0;
        int lawCount = 0;
        int actCount = 0;
        int nightsGone = 0;
        final int[] first = new int[MAX_PLACES];
        final int[] now = new int[MAX_PLACES];
        final int[] lawPlace = new int[MAX_LAWS];
        final int[] lawOther = new int[MAX_LAWS];
        final int[] lawEach = new int[MAX_LAWS];
        final int[] lawFrom = new int[MAX_LAWS];
        final int[] foes = new int[MAX_PLACES];
        private final int[] suitTable = new int[MAX_PLACES * MAX_PLACES];
        private final int[] acts = new int[MAX_ACTS];

        void clear() {
            places = 0;
            lines = 0;
            leaps = 0;
            lawCount = 0;
            actCount = 0;
            nightsGone = 0;
            Arrays.fill(foes, 0);
            Arrays.fill(suitTable, 0);
        }

        void become(Hall other) {
            places = other.places;
            lines = other.lines;
            leaps = other.leaps;
            lawCount = other.lawCount;
            actCount = other.actCount;
            nightsGone = other.nightsGone;
            System.arraycopy(other.first, 0, first, 0, MAX_PLACES);
            System.arraycopy(other.now, 0, now, 0, MAX_PLACES);
            System.arraycopy(other.lawPlace, 0, lawPlace, 0, MAX_LAWS);
            System.arraycopy(other.lawOther, 0, lawOther, 0, MAX_LAWS);
            System.arraycopy(other.lawEach, 0, lawEach, 0, MAX_LAWS);
            System.arraycopy(other.lawFrom, 0, lawFrom, 0, MAX_LAWS);
            System.arraycopy(other.foes, 0, foes, 0, MAX_PLACES);
            System.arraycopy(other.suitTable, 0, suitTable, 0, MAX_PLACES * MAX_PLACES);
            System.arraycopy(other.acts, 0, acts, 0, MAX_ACTS);
        }

        void setPlaces(int n) {
            places = n;
            for (int place = 0; place < MAX_PLACES; place++) {
                first[place] = place;
                now[place] = place;
            }
        }

        boolean isNone() {
            return places == 0;
        }

        /** Whether there is a HEAD, or a PLACE, of this number. */
        boolean holds(int number) {
            return number >= 0 && number < places && places <= MAX_PLACES;
        }

        int blank() {
            return places - 1;
        }

        int placeOf(int head) {
            return Rows.placeIn(now, places, head);
        }

        int suitOf(int head, int place) {
            return suitTable[head * MAX_PLACES + place];
        }

        void setSuit(int head, int place, int n) {
            suitTable[head * MAX_PLACES + place] = n;
        }

        int suitSum() {
            int sum = 0;
            for (int place = 0; place < places; place++) {
                sum += suitOf(now[place], place);
            }
            return sum;
        }

        int suitGain(int place, int other) {
            int hereHead = now[place];
            int thereHead = now[other];
            int then = suitOf(thereHead, place) + suitOf(hereHead, other);
            return then - suitOf(hereHead, place) - suitOf(thereHead, other);
        }

        void setFoes(int head, int other) {
            foes[head] |= 1 << other;
            foes[other] |= 1 << head;
        }

        boolean areFoes(int head, int other) {
            return (foes[head] >> other & 1) != 0;
        }

        int foePairs() {
            int sides = 0;
            for (int head = 0; head < places; head++) {
                sides += Integer.bitCount(foes[head]);
            }
            return sides / 2;
        }

        boolean canLeap(int place, int other) {
            return (leaps >> Math.abs(place - other) & 1) != 0;
        }

        int lawsIn(int number) {
            int bits = 0;
            for (int law = 0; law < lawCount; law++) {
                int each = lawEach[law];
                if (each > 0 && (number - lawFrom[law]) % each == 0) {
                    bits |= 1 << law;
                }
            }
            return bits;
        }

        void changeOver(int[] row, int laws) {
            for (int law = 0; law < lawCount; law++) {
                if ((laws >> law & 1) != 0) {
                    int head = row[lawPlace[law]];
                    row[lawPlace[law]] = row[lawOther[law]];
                    row[lawOther[law]] = head;
                }
            }
        }

        private void changeBack(int[] row, int laws) {
            for (int law = lawCount - 1; law >= 0; law--) {
                if ((laws >> law & 1) != 0) {
                    Rows.exchange(row, lawPlace[law], lawOther[law]);
                }
            }
        }

        boolean canAct() {
            return actCount >= 0 && actCount < MAX_ACTS;
        }

        void actSwap(int place, int other) {
            Rows.exchange(now, place, other);
            acts[actCount] = SWAP_BASE * place + other;
            actCount++;
        }

        void actNight() {
            changeOver(now, lawsIn(nightsGone));
            nightsGone++;
            acts[actCount] = NIGHT_ACT;
            actCount++;
        }

        void takeBack() {
            actCount--;
            int act = acts[actCount];
            if (act == NIGHT_ACT) {
                nightsGone--;
                changeBack(now, lawsIn(nightsGone));
            } else {
                Rows.exchange(now, act / SWAP_BASE, act % SWAP_BASE);
            }
        }

        void takeAllBack() {
            System.arraycopy(first, 0, now, 0, MAX_PLACES);
            actCount = 0;
            nightsGone = 0;
        }
    }

    /** Questions about a row of HEADS by PLACES, whatever hall it hangs in. */
    private static final class Rows {
        static void exchange(int[] row, int place, int other) {
            int head = row[place];
            row[place] = row[other];
            row[other] = head;
        }

        static int placeIn(int[] row, int places, int head) {
            for (int place = 0; place < places; place++) {
                if (row[place] == head) {
                    return place;
                }
            }
            return NONE;
        }

        static boolean alike(int[] row, int[] other, int places) {
            for (int place = 0; place < places; place++) {
                if (row[place] != other[place]) {
                    return false;
                }
            }
            return true;
        }

        static int rightBits(int[] row, int places) {
            int bits = 0;
            for (int place = 0; place < places; place++) {
                if (row[place] == place) {
                    bits |= 1 << place;
                }
            }
            return bits;
        }

        static int rightCount(int[] row, int places) {
            return Integer.bitCount(rightBits(row, places));
        }

        static boolean areBeside(int[] row, int places, int head, int other) {
            return Math.abs(placeIn(row, places, head) - placeIn(row, places, other)) == 1;
        }

        static int crossings(int[] row, int places) {
            int found = 0;
            for (int place = 0; place < places; place++) {
                for (int later = place + 1; later < places; later++) {
                    if (row[place] > row[later]) {
                        found++;
                    }
                }
            }
            return found;
        }

        static int ringBits(int[] row, int places, int head) {
            int bits = 0;
            int next = head;
            for (int i = 0; i < places; i++) {
                bits |= 1 << next;
                next = row[next];
            }
            return bits;
        }

        static int longestRise(int[] row, int places, int[] rises) {
            int longest = 0;
            for (int place = 0; place < places; place++) {
                rises[place] = 1;
                for (int before = 0; before < place; before++) {
                    if (row[before] < row[place]) {
                        rises[place] = Math.max(rises[place], rises[before] + 1);
                    }
                }
                longest = Math.max(longest, rises[place]);
            }
            return longest;
        }

        /** Each swap that sets one PLACE for good parts a ring in two; no swap can do more. */
        static int swapsBetween(int[] row, int[] wanted, int places, int[] scratch) {
            System.arraycopy(row, 0, scratch, 0, MAX_PLACES);
            int swaps = 0;
            for (int place = 0; place < places; place++) {
                if (scratch[place] != wanted[place]) {
                    int from = placeIn(scratch, places, wanted[place]);
                    if (from >= 0) {
                        exchange(scratch, place, from);
                    }
                    swaps++;
                }
            }
            return swaps;
        }
    }

    /** How a row goes on by nights. */
    private static final class Course {
        // 60 is a multiple of each law's each: behind so many nights the same laws come again.
        private static final int LAWS_AGAIN = 60;

        final int[] row = new int[MAX_PLACES];
        private final int[] origins = new int[MAX_PLACES];
        private final int[] before = new int[MAX_PLACES];
        private final int[] lawsByNight = new int[LAWS_AGAIN];
        private Hall hall = null;
        private int number = 0;

        void begin(Hall from) {
            System.arraycopy(from.now, 0, row, 0, MAX_PLACES);
            setOut(from, from.nightsGone);
        }

        /** Begins with each PLACE's own number in it, so that the row tells where all came from. */
        void beginAtFirst(Hall from) {
            System.arraycopy(RIGHT_ROW, 0, row, 0, MAX_PLACES);
            setOut(from, 0);
        }

        private void setOut(Hall from, int night) {
            hall = from;
            number = night % LAWS_AGAIN;
            for (int i = 0; i < LAWS_AGAIN; i++) {
                lawsByNight[i] = from.lawsIn(i);
            }
        }

        void goOneNight() {
            applyNight(row);
        }

        void goOn(int n) {
            if (n >= LAWS_AGAIN) {
                goWholeTimes(n / LAWS_AGAIN);
            }
            for (int i = 0; i < n % LAWS_AGAIN; i++) {
                applyNight(row);
            }
        }

        private void applyNight(int[] changing) {
            if (hall == null) {
                return;
            }
            int laws = lawsByNight[number];
            if (laws != 0) {
                hall.changeOver(changing, laws);
            }
            number = number + 1 < LAWS_AGAIN ? number + 1 : 0;
        }

        private void goWholeTimes(int times) {
            System.arraycopy(RIGHT_ROW, 0, origins, 0, MAX_PLACES);
            for (int i = 0; i < LAWS_AGAIN; i++) {
                applyNight(origins);
            }
            System.arraycopy(row, 0, before, 0, MAX_PLACES);
            for (int place = 0; place < MAX_PLACES; place++) {
                row[place] = before[originOf(place, times)];
            }
        }

        private int originOf(int place, int times) {
            int length = 1;
            int from = origins[place];
            while (from != place && length < MAX_PLACES) {
                from = origins[from];
                length++;
            }
            int left = times % length;
            from = place;
            for (int i = 0; i < left; i++) {
                from = origins[from];
            }
            return from;
        }
    }

    /** The SLOTS' rows of numbers. */
    private static final class Slots {
        static final int LONGEST = 60;
        private static final int SLOTS = 4;
        private static final int WIDTHS = 4;

        final long[][] numbers = new long[SLOTS][LONGEST];
        final int[] lengths = new int[SLOTS];
        final int[] widths = new int[SLOTS];
        private final boolean[] made = new boolean[SLOTS];

        static boolean isSlot(int slot) {
            return slot >= 0 && slot < SLOTS;
        }

        static boolean isWidth(int width) {
            return width >= 0 && width < WIDTHS;
        }

        boolean isFilled(int slot) {
            return made[slot];
        }

        int filled() {
            int found = 0;
            for (int slot = 0; slot < SLOTS; slot++) {
                if (made[slot]) {
                    found++;
                }
            }
            return found;
        }

        void make(int slot, int width, int n) {
            made[slot] = true;
            widths[slot] = width;
            lengths[slot] = n;
            Arrays.fill(numbers[slot], 0L);
        }

        /** The numbers are Java's own of 1, 2, 4 and 8 bytes, so they bear a sign. */
        static long cut(long v, int width) {
            switch (width) {
                case 0:
                    return (byte) v;
                case 1:
                    return (short) v;
                case 2:
                    return (int) v;
                default:
                    return v;
            }
        }

        /** Whether n numbers from one on are all in a SLOT's row; no sum here can wrap around. */
        boolean covers(int slot, int from, int n) {
            return from >= 0 && n >= 0 && n <= lengths[slot] && from <= lengths[slot] - n;
        }

        boolean readHeads(int slot, int places, int[] row) {
            if (lengths[slot] != places) {
                return false;
            }
            int seen = 0;
            for (int place = 0; place < places; place++) {
                long head = numbers[slot][place];
                if (head < 0 || head >= places) {
                    return false;
                }
                row[place] = (int) head;
                seen |= 1 << (int) head;
            }
            return seen == (1 << places) - 1;
        }
    }

    /** What is known of how it hung at first, by what was seen on later nights. */
    private static final class Sight {
        private static final int NUMBERS_EACH = 3;

        private final int[] hung = new int[MAX_PLACES];
        private int places = 0;
        private int knownHeads = 0;
        private int unknown = 0;
        private boolean isTrue = true;

        /** false if a number is none such, or if there are not three each. */
        boolean take(Hall hall, Slots slots, int slot, Course course) {
            if (!areSuch(hall, slots, slot)) {
                return false;
            }
            places = hall.places;
            knownHeads = 0;
            unknown = places;
            isTrue = true;
            Arrays.fill(hung, NONE);
            long[] seen = slots.numbers[slot];
            for (int i = 0; i < slots.lengths[slot]; i += NUMBERS_EACH) {
                course.beginAtFirst(hall);
                course.goOn((int) seen[i + 1]);
                learn(course.row[(int) seen[i]], (int) seen[i + 2]);
            }
            return true;
        }

        private static boolean areSuch(Hall hall, Slots slots, int slot) {
            int length = slots.lengths[slot];
            if (length % NUMBERS_EACH != 0) {
                return false;
            }
            long[] seen = slots.numbers[slot];
            for (int i = 0; i < length; i += NUMBERS_EACH) {
                boolean isPlace = seen[i] >= 0 && seen[i] < hall.places;
                boolean isNight = seen[i + 1] >= 0 && seen[i + 1] <= SEEN_NIGHTS;
                boolean isHead = seen[i + 2] >= 0 && seen[i + 2] < hall.places;
                if (!isPlace || !isNight || !isHead) {
                    return false;
                }
            }
            return true;
        }

        private void learn(int place, int head) {
            if (hung[place] == head) {
                return;
            }
            if (hung[place] != NONE || (knownHeads >> head & 1) != 0) {
                isTrue = false;
                return;
            }
            hung[place] = head;
            knownHeads |= 1 << head;
            unknown--;
        }

        /** The unknown HEADS can hang in the unknown PLACES in every order. */
        int rowsLeft() {
            return isTrue ? FACTORIALS[unknown] : 0;
        }

        int leastRowHead(int wanted) {
            if (!isTrue) {
                return NONE;
            }
            if (hung[wanted] != NONE) {
                return hung[wanted];
            }
            int free = (1 << places) - 1 & ~knownHeads;
            for (int place = 0; place < wanted; place++) {
                if (hung[place] == NONE) {
                    free &= free - 1;
                }
            }
            return Integer.bitCount((free & -free) - 1);
        }

        /** Every unknown PLACE leaves as few as the others; a single one is known already. */
        int placeToAsk() {
            if (!isTrue || unknown < 2) {
                return NONE;
            }
            return Rows.placeIn(hung, places, NONE);
        }

        int rowsLeftIfAsked() {
            return isTrue && unknown >= 2 ? FACTORIALS[unknown - 1] : rowsLeft();
        }
    }

    /** All rows to which LEAPS of the BLANK lead from one row, and how many LEAPS away they are. */
    private static final class Slider {
        private static final int ROWS = 5040;
        private static final int HEAD_BITS = 3;
        private static final int HEAD_MASK = 7;

        // By the BLANK's PLACE in the row aimed at: one search each is enough for a hall's leaps.
        // No leaps need more than 63 to lead anywhere, so a byte holds them.
        private final byte[][] leapsTo = new byte[MAX_PLACES][ROWS];
        private final boolean[] isSearched = new boolean[MAX_PLACES];
        private final int[] reached = new int[MAX_PLACES];
        private final int[] farthest = new int[MAX_PLACES];
        private final int[] queue = new int[ROWS];
        private final int[] bitCounts = new int[1 << MAX_PLACES];
        private final int[] names = new int[MAX_PLACES];
        private final int[] walk = new int[MAX_PLACES];
        private int places = 0;
        private int leaps = 0;
        private int home = 0;

        Slider() {
            for (int bits = 1; bits < 1 << MAX_PLACES; bits++) {
                bitCounts[bits] = bitCounts[bits >> 1] + (bits & 1);
            }
        }

        /**
         * Counts all LEAPS from this row. Only the BLANK's PLACE tells rows apart here: the other
         * HEADS are named anew as they hang in it, so that one search does for many rows.
         */
        void aimAt(Hall hall, int[] row) {
            if (places != hall.places || leaps != hall.leaps) {
                places = hall.places;
                leaps = hall.leaps;
                forgetSearches();
            }
            int blank = hall.blank();
            int name = 0;
            for (int place = 0; place < places; place++) {
                if (row[place] == blank) {
                    names[blank] = blank;
                    home = place;
                } else {
                    names[row[place]] = name;
                    name++;
                }
            }
            if (!isSearched[home]) {
                isSearched[home] = true;
                search(packed(row));
            }
        }

        private void forgetSearches() {
            for (int place = 0; place < MAX_PLACES; place++) {
                isSearched[place] = false;
            }
        }

        int rowsReached() {
            return reached[home];
        }

        int mostLeaps() {
            return farthest[home];
        }

        private void search(int from) {
            Arrays.fill(leapsTo[home], (byte) NONE);
            reached[home] = 0;
            farthest[home] = 0;
            note(from, 0);
            for (int i = 0; i < reached[home] && i < ROWS; i++) {
                spreadFrom(queue[i]);
            }
        }

        private void note(int pack, int count) {
            int rank = rankOf(pack);
            int known = reached[home];
            if (rank >= 0 && rank < ROWS && known < ROWS && leapsTo[home][rank] == NONE) {
                leapsTo[home][rank] = (byte) count;
                queue[known] = pack;
                reached[home] = known + 1;
                farthest[home] = count;
            }
        }

        private void spreadFrom(int pack) {
            int blank = places - 1;
            int place = 0;
            while (place < blank && headIn(pack, place) != blank) {
                place++;
            }
            int count = leapsToPack(pack) + 1;
            for (int other = 0; other < places; other++) {
                if ((leaps >> Math.abs(place - other) & 1) != 0) {
                    int unlike = headIn(pack, other) ^ blank;
                    int both = unlike << HEAD_BITS * place | unlike << HEAD_BITS * other;
                    note(pack ^ both, count);
                }
            }
        }

        private static int headIn(int pack, int place) {
            return pack >> HEAD_BITS * place & HEAD_MASK;
        }

        private int packed(int[] row) {
            int pack = 0;
            for (int place = 0; place < places; place++) {
                pack |= names[row[place]] << HEAD_BITS * place;
            }
            return pack;
        }

        /** Rows are ranked as they rise; bits are counted by a table, since searches ask for many ranks. */
        private int rankOf(int pack) {
            int rank = 0;
            int free = (1 << places) - 1;
            int rest = pack;
            for (int left = places; left > 0; left--) {
                int bit = 1 << (rest & HEAD_MASK);
                rank = rank * left + bitCounts[free & bit - 1];
                free &= ~bit;
                rest >>= HEAD_BITS;
            }
            return rank;
        }

        /** LEAPS between the row aimed at and another one; they lead as far there as back. */
        int leapsFrom(int[] row) {
            return leapsToPack(packed(row));
        }

        private int leapsToPack(int pack) {
            int rank = rankOf(pack);
            return rank >= 0 && rank < ROWS ? leapsTo[home][rank] : NONE;
        }

        int placeOfLeap(int[] row, int wanted) {
            System.arraycopy(row, 0, walk, 0, MAX_PLACES);
            int left = leapsFrom(walk);
            if (wanted < 0 || wanted >= left) {
                return NONE;
            }
            int place = Rows.placeIn(walk, places, places - 1);
            for (int i = 0; i <= wanted && place >= 0; i++) {
                left--;
                place = leapNearer(place, left);
            }
            return place;
        }

        /** Leads the BLANK to the least PLACE from which so many LEAPS are left. */
        private int leapNearer(int place, int left) {
            for (int other = 0; other < places; other++) {
                if ((leaps >> Math.abs(place - other) & 1) != 0) {
                    Rows.exchange(walk, place, other);
                    if (leapsFrom(walk) == left) {
                        return other;
                    }
                    Rows.exchange(walk, place, other);
                }
            }
            return NONE;
        }
    }

    /** Rows in which none hang beside each other that must not. */
    private static final class Parting {
        private static final int LAST_BITS = 3;

        // By the HEADS that hang already (from the left) and the last of them: how many ways to go on.
        private final int[] goingOn = new int[1 << MAX_PLACES + LAST_BITS];
        private final int[] row = new int[MAX_PLACES];
        private final int[] scratch = new int[MAX_PLACES];
        private Hall hall = null;
        private int places = 0;

        void prepare(Hall from) {
            hall = from;
            places = from.places;
            int all = (1 << places) - 1;
            for (int last = 0; last < places; last++) {
                goingOn[all << LAST_BITS | last] = 1;
            }
            for (int used = all - 1; used > 0; used--) {
                for (int last = 0; last < places; last++) {
                    if ((used >> last & 1) != 0) {
                        goingOn[used << LAST_BITS | last] = sumBehind(from, used, last);
                    }
                }
            }
        }

        private int sumBehind(Hall from, int used, int last) {
            int barred = used | from.foes[last];
            int sum = 0;
            for (int head = 0; head < places; head++) {
                if ((barred >> head & 1) == 0) {
                    sum += goingOn[(used | 1 << head) << LAST_BITS | head];
                }
            }
            return sum;
        }

        int rowsInAll() {
            int sum = 0;
            for (int head = 0; head < places; head++) {
                sum += goingOn[1 << head << LAST_BITS | head];
            }
            return sum;
        }

        int leastRowHead(int wanted) {
            int used = 0;
            int last = NONE;
            for (int place = 0; place <= wanted; place++) {
                last = leastNext(used, last);
                if (last == NONE) {
                    return NONE;
                }
                used |= 1 << last;
            }
            return last;
        }

        private int leastNext(int used, int last) {
            for (int head = 0; head < places; head++) {
                if (canFollow(used, last, head)) {
                    return head;
                }
            }
            return NONE;
        }

        private boolean canFollow(int used, int last, int head) {
            if (hall == null || (used >> head & 1) != 0) {
                return false;
            }
            if (last != NONE && hall.areFoes(last, head)) {
                return false;
            }
            return goingOn[(used | 1 << head) << LAST_BITS | head] > 0;
        }

        int fewestSwaps() {
            return hall == null ? NONE : fewestBehind(this, 0, 0, NONE);
        }

        /** The fewest swaps of all rows that begin as row does; place is the depth, at most 7. */
        private static int fewestBehind(Parting parting, int place, int used, int fewest) {
            int[] row = parting.row;
            if (place >= parting.places || place >= MAX_PLACES) {
                int swaps = Rows.swapsBetween(parting.hall.now, row, parting.places, parting.scratch);
                return fewest == NONE ? swaps : Math.min(fewest, swaps);
            }
            int last = place > 0 ? row[place - 1] : NONE;
            int found = fewest;
            for (int head = 0; head < parting.places; head++) {
                if (parting.canFollow(used, last, head)) {
                    row[place] = head;
                    found = fewestBehind(parting, place + 1, used | 1 << head, found);
                }
            }
            return found;
        }
    }

    /** Rows that suit best. */
    private static final class Suiting {
        // By the HEADS that hang already (from the left): the greatest sum of the rest, and its rows.
        final int[] sums = new int[1 << MAX_PLACES];
        final int[] rowCounts = new int[1 << MAX_PLACES];
        private Hall hall = null;

        void prepare(Hall from) {
            hall = from;
            int all = (1 << from.places) - 1;
            sums[all] = 0;
            rowCounts[all] = 1;
            for (int used = all - 1; used >= 0; used--) {
                weigh(from, used);
            }
        }

        private void weigh(Hall from, int used) {
            int place = Integer.bitCount(used);
            int most = NONE;
            int rows = 0;
            for (int head = 0; head < from.places; head++) {
                if ((used >> head & 1) == 0) {
                    int then = used | 1 << head;
                    int sum = from.suitOf(head, place) + sums[then];
                    if (sum > most) {
                        most = sum;
                        rows = 0;
                    }
                    rows += sum == most ? rowCounts[then] : 0;
                }
            }
            sums[used] = most;
            rowCounts[used] = rows;
        }

        int leastRowHead(int wanted) {
            int used = 0;
            int head = NONE;
            for (int place = 0; place <= wanted; place++) {
                head = leastNext(used, place);
                if (head == NONE) {
                    return NONE;
                }
                used |= 1 << head;
            }
            return head;
        }

        private int leastNext(int used, int place) {
            if (hall == null) {
                return NONE;
            }
            for (int head = 0; head < hall.places; head++) {
                boolean isFree = (used >> head & 1) == 0;
                if (isFree && hall.suitOf(head, place) + sums[used | 1 << head] == sums[used]) {
                    return head;
                }
            }
            return NONE;
        }
    }

    /** The GAME of the BLANK. */
    private static final class Game {
        // By the PLACES in which the BLANK was: those of them, as bits, from which who is on turn wins.
        private final int[] won = new int[1 << MAX_PLACES];
        private Hall hall = null;

        void prepare(Hall from) {
            hall = from;
            for (int been = (1 << from.places) - 1; been > 0; been--) {
                won[been] = 0;
                for (int place = 0; place < from.places; place++) {
                    if ((been >> place & 1) != 0 && leastWinning(been, place) != NONE) {
                        won[been] |= 1 << place;
                    }
                }
            }
        }

        boolean isWon(int been, int place) {
            return (won[been] >> place & 1) != 0;
        }

        int bestLead(int place) {
            return leastWinning(1 << place, place);
        }

        private int leastWinning(int been, int place) {
            if (hall == null) {
                return NONE;
            }
            for (int other = 0; other < hall.places; other++) {
                boolean isNew = (been >> other & 1) == 0;
                if (isNew && hall.canLeap(place, other) && !isWon(been | 1 << other, other)) {
                    return other;
                }
            }
            return NONE;
        }
    }

    /** NIGHTS by lot, and drawn ones. */
    private static final class Lots {
        private static final long FACTOR = 1_103_515_245L;
        private static final long ADDEND = 12_345L;
        private static final long MODULUS = 2_147_483_648L;
        private static final long CUT = 65_536L;
        private static final int DIVISIONS = 200;

        final long[] cases = new long[MAX_PLACES];
        long allCases = 1;
        private final long[] before = new long[MAX_PLACES];

        /** Of all runs of n NIGHTS, each as likely, those that lead the BLANK to each PLACE. */
        void spread(Hall hall, int n) {
            Arrays.fill(cases, 0L);
            int from = hall.placeOf(hall.blank());
            if (from >= 0) {
                cases[from] = 1;
            }
            allCases = 1;
            for (int i = 0; i < n; i++) {
                spreadOneNight(hall.places);
                allCases *= hall.places - 1;
            }
        }

        private void spreadOneNight(int places) {
            System.arraycopy(cases, 0, before, 0, MAX_PLACES);
            for (int place = 0; place < places; place++) {
                int pairsAside = places - 1;
                long moved = 0;
                if (place > 0) {
                    moved += before[place - 1];
                    pairsAside--;
                }
                if (place < places - 1) {
                    moved += before[place + 1];
                    pairsAside--;
                }
                cases[place] = moved + pairsAside * before[place];
            }
        }

        static long commonDivisor(long a, long b) {
            long greater = a;
            long lesser = b;
            for (int i = 0; i < DIVISIONS && lesser != 0; i++) {
                long rest = greater % lesser;
                greater = lesser;
                lesser = rest;
            }
            return greater;
        }

        static int placeDrawn(int seed, int n, int from, int places) {
            int pairs = places - 1;
            int place = from;
            long x = seed;
            for (int i = 0; i < n && pairs > 0; i++) {
                x = (FACTOR * x + ADDEND) % MODULUS;
                int pair = (int) (x / CUT % pairs);
                if (place == pair) {
                    place = pair + 1;
                } else if (place == pair + 1) {
                    place = pair;
                }
            }
            return place;
        }
    }
}
