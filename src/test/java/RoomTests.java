import java.lang.management.ManagementFactory;

/** All calls of a run live in one room: what a new object takes is small, and calls take next to nothing. */
public final class RoomTests {
    private static final long NEW_OBJECT = 40_000;
    private static final long SEARCH_TABLES = 60_000;
    private static int wrong = 0;

    public static void main(String[] args) {
        round(new SwapTrophies());
        long start = allocated();
        SwapTrophies x = new SwapTrophies();
        check("a new object", allocated() - start, NEW_OBJECT);
        start = allocated();
        round(x);
        check("the first calls of all kinds", allocated() - start, SEARCH_TABLES);
        start = allocated();
        for (int i = 0; i < 10; i++) {
            round(x);
        }
        check("all other calls", allocated() - start, 20_000);
        System.out.println(wrong == 0 ? "the room is wide enough" : wrong + " take too much room");
        if (wrong != 0) {
            System.exit(1);
        }
    }

    private static long allocated() {
        var threads = (com.sun.management.ThreadMXBean) ManagementFactory.getThreadMXBean();
        return threads.getThreadAllocatedBytes(Thread.currentThread().getId());
    }

    private static void check(String what, long took, long most) {
        System.out.println(what + ": " + took + " bytes");
        if (took > most) {
            wrong++;
        }
    }

    /** Every method once or more, on a hall of 7 places with 6 laws and all leaps. */
    private static void round(SwapTrophies x) {
        x.end(0);
        x.feed(0x68616c6c, 0x20706c61, 0x63657320, 0x373b6c65, 0x61702031);
        x.feed(0x3b6c6561, 0x7020323b, 0x6c656170, 0x20333b6c, 0x65617020);
        x.feed(0x363b6c61, 0x77203020, 0x77697468, 0x20312065, 0x61636820);
        x.feed(0x31206672, 0x6f6d2030, 0x3b20200a, 0x20202020, 0x20202020);
        if (x.hall() != 6) {
            wrong++;
            System.out.println("the hall was not taken: " + x.fault(0) + " at " + x.fault(1));
        }
        x.row(0, 0, 7);
        for (int i = 0; i < 7; i++) {
            x.write(0, i, 6 - i);
        }
        x.row(1, 2, 60);
        x.paste(1, 0, 1, 1, 59);
        for (int place = 0; place < 7; place++) {
            askAll(x, place);
        }
        for (int i = 0; i < 40; i++) {
            x.night();
            x.swap(i % 7, 3);
        }
        x.image(0);
        x.anew();
        x.back(0);
        x.undo();
    }

    private static void askAll(SwapTrophies x, int place) {
        int sum = x.law(0, 0) + x.suits(place, 0) + x.apart(place) + x.at(place) + x.where(place);
        sum += x.later(place, 1_000_000_000) + x.right(999) + x.rights() + x.whole() + x.round() + x.comes(place, 0);
        sum += x.meet(place, 0) + x.tonight(0) + x.odd() + x.swaps() + x.steps() + x.rings() + x.stay() + x.ring(place);
        sum += x.away(place) + x.lost() + x.beside(place) + x.quarrels() + x.finest(5000) + x.spells(place, 5000);
        sum += x.slide(0) + x.slides(0, 1) + x.reach() + x.far() + x.fits(1) + x.fit(1, place) + x.ask(1) + x.leaves(1);
        sum += x.changed(0) + x.same(0) + x.skipped(0) + x.hangs() + x.hang(place) + x.parts() + x.best() + x.bests(place);
        sum += x.ways() + x.suit() + x.trade() + x.wins(place) + x.takes(place) + (int) x.chance(place, 12, 0) + x.likely(12);
        sum += x.nights() + x.drawn(1, 60, place) + x.luck(1, 20, 60, place) + x.tell(place, 0, 9) + x.count(2);
        if (sum == Integer.MIN_VALUE) {
            System.out.println(sum);
        }
    }
}
