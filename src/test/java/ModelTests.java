import java.math.BigInteger;
import java.util.ArrayDeque;
import java.util.ArrayList;
import java.util.Arrays;
import java.util.HashMap;
import java.util.List;
import java.util.Map;
import java.util.Random;

/** Random runs of calls, each answer beside that of a model that tries everything out. */
public final class ModelTests {
    private static final int CALLS = 512;
    private static int wrong = 0;

    public static void main(String[] args) {
        int runs = args.length > 0 ? Integer.parseInt(args[0]) : 600;
        long firstSeed = args.length > 1 ? Long.parseLong(args[1]) : 1;
        for (int run = 0; run < runs && wrong < 10; run++) {
            new Run(firstSeed + run).go();
        }
        System.out.println(wrong == 0 ? "all answers are as the model's" : wrong + " answers are not as the model's");
        if (wrong != 0) {
            System.exit(1);
        }
    }

    /** One run on one object. */
    private static final class Run {
        private final long seed;
        private final Random random;
        private final SwapTrophies real = new SwapTrophies();
        private final Model model = new Model();
        private int calls = 0;

        Run(long seed) {
            this.seed = seed;
            this.random = new Random(seed);
        }

        private void due(String call, long got, long want) {
            calls++;
            if (got != want) {
                wrong++;
                System.out.println("run " + seed + ", call " + calls + ": " + call + " answered " + got + ", the model " + want
                        + " in " + model.describe());
            }
        }

        private int pick(int bound) {
            return random.nextInt(bound);
        }

        /** Mostly a number that is such, now and then one beyond. */
        private int some(int n) {
            return pick(20) == 0 ? pick(n + 6) - 3 : pick(Math.max(1, n));
        }

        void go() {
            if (pick(4) != 0) {
                loadHall();
            }
            while (calls < CALLS && wrong < 10) {
                oneCall();
            }
        }

        private void loadHall() {
            // A faulty text stays on the tape; now and then the next one comes behind it.
            if (pick(10) != 0) {
                due("end(0)", real.end(0), model.end(0));
            }
            String text = randomText();
            for (int i = 0; i < text.length(); i += 20) {
                int[] v = new int[5];
                for (int j = 0; j < 20; j++) {
                    int b = i + j < text.length() ? text.charAt(i + j) : pick(256);
                    v[j / 4] = v[j / 4] << 8 | b & 255;
                }
                due("feed", real.feed(v[0], v[1], v[2], v[3], v[4]), model.feed(v));
            }
            due("end(" + text.length() + ")", real.end(text.length()), model.end(text.length()));
            due("hall() of " + text, real.hall(), model.hall());
            due("fault(0) of " + text, real.fault(0), model.fault(0));
            due("fault(1) of " + text, real.fault(1), model.fault(1));
        }

        private String randomText() {
            int n = 2 + pick(6);
            StringBuilder text = new StringBuilder("hall places " + n + ";");
            int lines = pick(14);
            for (int i = 0; i < lines; i++) {
                text.append(pick(3) == 0 ? "\n" : "").append(randomLine(n));
            }
            if (pick(3) == 0) {
                damage(text);
            }
            return text.length() > 780 ? text.substring(0, 780) : text.toString();
        }

        private String randomLine(int n) {
            int a = pick(n);
            int b = (a + 1 + pick(n - 1)) % n;
            switch (pick(12)) {
                case 0: case 1: {
                    List<Integer> row = Model.identity(n);
                    java.util.Collections.shuffle(row, random);
                    StringBuilder s = new StringBuilder("hang");
                    for (int h : row) {
                        s.append(' ').append(h);
                    }
                    return s + (pick(2) == 0 ? ";" : " ; ");
                }
                case 2: case 3: case 4: case 5: {
                    int each = 1 + pick(6);
                    return "law " + a + " with " + b + " each " + each + " from " + pick(each) + ";";
                }
                case 6: case 7:
                    return "leap " + (1 + pick(pick(2) == 0 ? 3 : 6)) + ";";
                case 8: case 9:
                    return "suit " + a + " " + pick(n) + " " + pick(pick(2) == 0 ? 4 : 100) + ";";
                default:
                    return "apart " + a + " " + b + ";";
            }
        }

        private void damage(StringBuilder text) {
            int times = 1 + pick(2);
            for (int i = 0; i < times && text.length() > 0; i++) {
                int at = pick(text.length());
                switch (pick(5)) {
                    case 0:
                        text.deleteCharAt(at);
                        break;
                    case 1:
                        text.setCharAt(at, "0123456789;  \nahz#A".charAt(pick(19)));
                        break;
                    case 2:
                        text.insert(at, "0123456789;  \nahz#A".charAt(pick(19)));
                        break;
                    case 3:
                        text.setLength(at);
                        break;
                    default:
                        text.append(new String[] {"hall places 3;", "law 0 with 1 each 1 from 0;", " ", "leap 0;", "hang 0;"}[pick(5)]);
                }
            }
        }

        private void oneCall() {
            int n = model.places;
            switch (pick(25)) {
                case 0:
                    if (pick(5) == 0 && seed % 4 != 0) {
                        loadHall();
                    } else {
                        due("end", real.end(0), model.end(0));
                    }
                    break;
                case 1:
                    tellsCalls(n);
                    break;
                case 2: case 3: case 4: case 5:
                    laterCalls(n);
                    break;
                case 6: case 7:
                    rightCalls(n);
                    break;
                case 8: case 9:
                    writeRow(n);
                    break;
                case 10: case 11: case 12: case 13:
                    slotCalls(n);
                    break;
                case 14: case 15:
                    partCalls(n);
                    break;
                case 16: case 17:
                    gameCalls(n);
                    break;
                case 18: case 19: case 20:
                    actCalls(n);
                    break;
                case 21:
                    int k = some(3);
                    if (pick(2) == 0) {
                        due("image", real.image(k), model.image(k));
                    } else {
                        due("back", real.back(k), model.back(k));
                    }
                    break;
                default:
                    int what = some(7);
                    due("count(" + what + ")", real.count(what), model.count(what));
            }
        }

        private void tellsCalls(int n) {
            int a = some(n);
            int b = some(n);
            int l = some(6);
            int w = some(4);
            int v = some(100);
            due("law", real.law(l, w), model.law(l, w));
            due("suits", real.suits(a, b), model.suits(a, b));
            due("apart", real.apart(a), model.apartBits(a));
            due("at", real.at(a), model.at(a));
            due("where", real.where(a), model.where(a));
            due("fault", real.fault(w), model.fault(w));
            due("tell(" + a + ", " + b + ", " + v + ")", real.tell(a, b, v), model.tell(a, b, v));
        }

        private void laterCalls(int n) {
            int a = some(n);
            int b = some(n);
            int near = pick(3) == 0 ? some(5001) : some(30);
            int far = pick(2) == 0 ? some(100) : pick(2) == 0 ? 4000 + some(10000) : 999_000_000 + pick(1_000_002);
            if (pick(40) == 0) {
                far = pick(2) == 0 ? -1 : Integer.MAX_VALUE;
            }
            switch (pick(9)) {
                case 0:
                    due("later(" + a + ", " + far + ")", real.later(a, far), model.later(a, far));
                    break;
                case 1:
                    due("right(" + far + ")", real.right(far), model.right(far));
                    break;
                case 2:
                    due("whole()", real.whole(), model.whole());
                    break;
                case 3:
                    due("round()", real.round(), model.round());
                    break;
                case 4:
                    due("comes(" + a + ", " + b + ")", real.comes(a, b), model.comes(a, b));
                    break;
                case 5:
                    due("meet(" + a + ", " + b + ")", real.meet(a, b), model.meet(a, b));
                    break;
                case 6:
                    due("tonight(" + far + ")", real.tonight(far), model.tonight(far));
                    break;
                case 7:
                    due("finest(" + near + ")", real.finest(near), model.finest(near));
                    break;
                default:
                    due("spells(" + a + ", " + near + ")", real.spells(a, near), model.spells(a, near));
            }
        }

        private void rightCalls(int n) {
            int a = some(n);
            due("rights()", real.rights(), model.rights());
            due("odd()", real.odd(), model.odd());
            due("swaps()", real.swaps(), model.swaps());
            due("steps()", real.steps(), model.steps());
            due("rings()", real.rings(), model.rings());
            due("stay()", real.stay(), model.stay());
            due("ring(" + a + ")", real.ring(a), model.ring(a));
            due("away(" + a + ")", real.away(a), model.away(a));
            due("lost()", real.lost(), model.lost());
            due("beside(" + a + ")", real.beside(a), model.beside(a));
            due("quarrels()", real.quarrels(), model.quarrels());
        }

        private void writeRow(int n) {
            int slot = some(4);
            int width = some(4);
            boolean isRow = pick(2) == 0;
            int seen = pick(pick(3) == 0 ? 20 : 4);
            int length = isRow ? n : 3 * seen;
            if (pick(15) == 0) {
                length = pick(65) - 2;
            }
            due("row(" + slot + ", " + width + ", " + length + ")", real.row(slot, width, length), model.row(slot, width, length));
            List<Integer> heads = new ArrayList<>(pick(2) == 0 && n > 0 ? model.now : Model.identity(n));
            int moves = pick(12);
            boolean byLeaps = pick(3) != 0;
            for (int i = 0; i < moves && n > 1; i++) {
                int a = byLeaps ? heads.indexOf(n - 1) : pick(n);
                int b = pick(n);
                if (!byLeaps || model.leaps.contains(Math.abs(a - b))) {
                    java.util.Collections.swap(heads, a, b);
                }
            }
            int base = pick(2) == 0 ? 0 : pick(1000);
            for (int i = 0; i < length; i++) {
                long v;
                if (isRow) {
                    v = i < heads.size() ? heads.get(i) : 0;
                } else {
                    int night = pick(3) == 0 ? base : pick(2) == 0 ? pick(10) : pick(1000);
                    v = i % 3 == 1 ? night : i % 3 == 0 ? pick(Math.max(1, n)) : 0;
                    if (i % 3 == 2 && n > 0) {
                        v = pick(6) == 0 ? pick(n) : model.truth(i, n);
                    }
                }
                v += pick(30) == 0 ? 256L << pick(30) : 0;
                v = pick(400) == 0 ? random.nextLong() : v;
                int at = pick(200) == 0 ? i - 5 : i;
                due("write(" + slot + ", " + at + ", " + v + ")", real.write(slot, at, v), model.write(slot, at, v));
            }
            if (pick(4) == 0) {
                int i = some(5);
                int to = some(4);
                int k = some(5);
                int m = pick(10) == 0 ? Integer.MAX_VALUE - pick(3) : some(7);
                due("paste", real.paste(slot, i, to, k, m), model.paste(slot, i, to, k, m));
            }
        }

        private void slotCalls(int n) {
            int slot = some(4);
            int a = some(n);
            due("slide(" + slot + ")", real.slide(slot), model.slide(slot));
            int i = some(8);
            due("slides(" + slot + ", " + i + ")", real.slides(slot, i), model.slides(slot, i));
            due("fits(" + slot + ")", real.fits(slot), model.fits(slot));
            due("fit(" + slot + ", " + a + ")", real.fit(slot, a), model.fit(slot, a));
            due("ask(" + slot + ")", real.ask(slot), model.ask(slot));
            due("leaves(" + slot + ")", real.leaves(slot), model.leaves(slot));
            due("changed(" + slot + ")", real.changed(slot), model.changed(slot));
            due("same(" + slot + ")", real.same(slot), model.same(slot));
            due("skipped(" + slot + ")", real.skipped(slot), model.skipped(slot));
            if (pick(3) == 0) {
                due("reach()", real.reach(), model.reach());
                due("far()", real.far(), model.far());
            }
        }

        private void partCalls(int n) {
            int a = some(n);
            switch (pick(8)) {
                case 0:
                    due("hangs()", real.hangs(), model.hangs());
                    break;
                case 1:
                    due("hang(" + a + ")", real.hang(a), model.hang(a));
                    break;
                case 2:
                    due("parts()", real.parts(), model.parts());
                    break;
                case 3:
                    due("best()", real.best(), model.best());
                    break;
                case 4:
                    due("bests(" + a + ")", real.bests(a), model.bests(a));
                    break;
                case 5:
                    due("ways()", real.ways(), model.ways());
                    break;
                case 6:
                    due("suit()", real.suit(), model.suit());
                    break;
                default:
                    due("trade()", real.trade(), model.trade());
            }
        }

        private void gameCalls(int n) {
            int a = some(n);
            int k = some(13);
            int what = some(2);
            int seed2 = pick(10) == 0 ? pick(2) == 0 ? 2_000_000_000 : 2_000_000_001 : random.nextInt() >> pick(20);
            int m = some(21);
            int drawn = some(61);
            due("wins(" + a + ")", real.wins(a), model.wins(a));
            due("takes(" + a + ")", real.takes(a), model.takes(a));
            due("chance(" + a + ", " + k + ", " + what + ")", real.chance(a, k, what), model.chance(a, k, what));
            due("likely(" + k + ")", real.likely(k), model.likely(k));
            due("drawn(" + seed2 + ", " + drawn + ", " + a + ")", real.drawn(seed2, drawn, a), model.drawn(seed2, drawn, a));
            due("luck(" + seed2 + ", " + m + ", " + drawn + ", " + a + ")", real.luck(seed2, m, drawn, a), model.luck(seed2, m, drawn, a));
        }

        private void actCalls(int n) {
            int a = some(n);
            int b = some(n);
            boolean goesOn = seed % 4 == 0;
            switch (pick(goesOn ? 6 : 8)) {
                case 0: case 1: case 2:
                    due("swap(" + a + ", " + b + ")", real.swap(a, b), model.swap(a, b));
                    break;
                case 3: case 4: case 5:
                    due("night()", real.night(), model.night());
                    break;
                case 6:
                    due("undo()", real.undo(), model.undo());
                    break;
                default:
                    if (pick(6) == 0) {
                        due("anew()", real.anew(), model.anew());
                    }
            }
            due("nights()", real.nights(), model.nights());
        }
    }

    /** The document's words, each tried out in full. */
    private static final class Model {
        int places = 0;
        List<Integer> now = new ArrayList<>();
        private int lines = 0;
        private List<int[]> laws = new ArrayList<>();
        private List<Integer> leaps = new ArrayList<>();
        private int[][] suit = new int[7][7];
        private boolean[][] foes = new boolean[7][7];
        private int gone = 0;
        // What hung, and nights gone, ahead of each act.
        private List<List<Integer>> past = new ArrayList<>();
        private List<Integer> pastGone = new ArrayList<>();

        private byte[] tape = new byte[0];
        private int fault = 0;
        private int faultPlace = -1;
        private final Model[] images = new Model[3];
        private final long[][] slots = new long[4][];
        private final int[] widths = new int[4];

        static List<Integer> identity(int n) {
            List<Integer> row = new ArrayList<>();
            for (int i = 0; i < n; i++) {
                row.add(i);
            }
            return row;
        }

        String describe() {
            StringBuilder s = new StringBuilder("places " + places + " now " + now + " nights " + gone + " leaps " + leaps + " laws");
            for (int[] l : laws) {
                s.append(Arrays.toString(l));
            }
            s.append(" slots");
            for (long[] l : slots) {
                s.append(Arrays.toString(l));
            }
            return s.toString();
        }

        private void takeFrom(Model m) {
            places = m.places;
            lines = m.lines;
            now = new ArrayList<>(m.now);
            laws = new ArrayList<>(m.laws);
            leaps = new ArrayList<>(m.leaps);
            suit = new int[7][];
            foes = new boolean[7][];
            for (int i = 0; i < 7; i++) {
                suit[i] = m.suit[i].clone();
                foes[i] = m.foes[i].clone();
            }
            gone = m.gone;
            past = new ArrayList<>(m.past);
            pastGone = new ArrayList<>(m.pastGone);
        }

        // ---- text

        int feed(int[] v) {
            if (tape.length + 20 > 800) {
                return -1;
            }
            int size = tape.length;
            tape = Arrays.copyOf(tape, size + 20);
            for (int j = 0; j < 20; j++) {
                tape[size + j] = (byte) (v[j / 4] >>> 8 * (3 - j % 4));
            }
            return tape.length;
        }

        int end(int n) {
            if (n < 0 || n > tape.length) {
                return -1;
            }
            tape = Arrays.copyOf(tape, n);
            return n;
        }

        int hall() {
            Model m = new Model();
            int[] bad = parse(m, new String(tape, java.nio.charset.StandardCharsets.ISO_8859_1));
            if (bad != null) {
                fault = bad[0];
                faultPlace = bad[1];
                return -4;
            }
            tape = new byte[0];
            fault = 0;
            faultPlace = -1;
            if (m.leaps.isEmpty()) {
                m.leaps.add(1);
            }
            takeFrom(m);
            return lines;
        }

        int fault(int what) {
            return what == 0 ? fault : what == 1 ? faultPlace : -1;
        }

        /** Every line is matched against a list of what may stand there; the first bad one is told. */
        private static int[] parse(Model m, String text) {
            List<String> tokens = new ArrayList<>();
            List<Integer> starts = new ArrayList<>();
            java.util.regex.Matcher matcher = java.util.regex.Pattern.compile("[a-z]+|[0-9]+|;|[^ \\n]", java.util.regex.Pattern.DOTALL).matcher(text);
            while (matcher.find()) {
                tokens.add(matcher.group());
                starts.add(matcher.start());
            }
            tokens.add("");
            starts.add(text.length());
            int t = 0;
            while (!tokens.get(t).isEmpty()) {
                String word = tokens.get(t);
                boolean known = m.lines == 0 ? word.equals("hall") : List.of("hang", "law", "leap", "suit", "apart").contains(word);
                if (!known) {
                    return new int[] {1, starts.get(t)};
                }
                if (word.equals("law") && m.laws.size() == 6) {
                    return new int[] {3, starts.get(t)};
                }
                String[] form = form(word, m.places).split(" ");
                List<Integer> got = new ArrayList<>();
                for (int i = 1; i < form.length; i++) {
                    String token = tokens.get(t + i);
                    int why = check(form[i], token, got, m.places);
                    if (why != 0) {
                        return new int[] {why, starts.get(t + i)};
                    }
                    if (form[i].length() == 1 && !form[i].equals(";")) {
                        got.add(new BigInteger(token).intValue());
                    }
                }
                t += form.length;
                m.lines++;
                m.obey(word, got);
            }
            return null;
        }

        // N places, H a head, D a head or place not yet told in the line, E each, F from, L leap, S suit.
        private static String form(String word, int places) {
            switch (word) {
                case "hall":
                    return "hall places N ;";
                case "hang":
                    return "hang" + " D".repeat(places) + " ;";
                case "law":
                    return "law H with D each E from F ;";
                case "leap":
                    return "leap L ;";
                case "suit":
                    return "suit H H S ;";
                default:
                    return "apart H D ;";
            }
        }

        private static int check(String due, String token, List<Integer> got, int places) {
            if (due.equals(";") || due.length() > 1) {
                return token.equals(due) ? 0 : 1;
            }
            if (!token.matches("[0-9]+")) {
                return 1;
            }
            BigInteger v = new BigInteger(token);
            int least = 0;
            int most = places - 1;
            switch (due) {
                case "N":
                    least = 2;
                    most = 7;
                    break;
                case "E": case "L":
                    least = 1;
                    most = 6;
                    break;
                case "F":
                    most = got.get(2) - 1;
                    break;
                case "S":
                    most = 99;
                    break;
                default:
            }
            if (v.compareTo(BigInteger.valueOf(least)) < 0 || v.compareTo(BigInteger.valueOf(most)) > 0) {
                return 2;
            }
            return due.equals("D") && got.contains(v.intValue()) ? 2 : 0;
        }

        private void obey(String word, List<Integer> got) {
            switch (word) {
                case "hall":
                    places = got.get(0);
                    now = identity(places);
                    break;
                case "hang":
                    now = new ArrayList<>(got);
                    break;
                case "law":
                    laws.add(new int[] {got.get(0), got.get(1), got.get(2), got.get(3)});
                    break;
                case "leap":
                    if (!leaps.contains(got.get(0))) {
                        leaps.add(got.get(0));
                    }
                    break;
                case "suit":
                    suit[got.get(0)][got.get(1)] = got.get(2);
                    break;
                default:
                    foes[got.get(0)][got.get(1)] = true;
                    foes[got.get(1)][got.get(0)] = true;
            }
        }

        // ---- told

        private boolean such(int n) {
            return n >= 0 && n < places;
        }

        int law(int l, int w) {
            return l < 0 || l >= laws.size() || w < 0 || w > 3 ? -2 : laws.get(l)[w];
        }

        int suits(int h, int p) {
            return such(h) && such(p) ? suit[h][p] : -2;
        }

        int apartBits(int h) {
            if (!such(h)) {
                return -2;
            }
            int bits = 0;
            for (int o = 0; o < places; o++) {
                bits += foes[h][o] ? 1 << o : 0;
            }
            return bits;
        }

        int at(int p) {
            return such(p) ? now.get(p) : -2;
        }

        int where(int h) {
            return such(h) ? now.indexOf(h) : -2;
        }

        // ---- nights

        private boolean applies(int[] law, long number) {
            return (number - law[3]) % law[2] == 0;
        }

        private List<Integer> oneNight(List<Integer> row, long number) {
            List<Integer> next = new ArrayList<>(row);
            for (int[] law : laws) {
                if (applies(law, number)) {
                    java.util.Collections.swap(next, law[0], law[1]);
                }
            }
            return next;
        }

        /** Nights one by one until the row and the night (modulo 60) come again. */
        private List<Integer> rowLater(List<Integer> row, int from, long n) {
            Map<String, Integer> seen = new HashMap<>();
            List<List<Integer>> rows = new ArrayList<>();
            List<Integer> cur = row;
            for (int i = 0; i <= n; i++) {
                String key = cur + "/" + (from + i) % 60;
                Integer before = seen.put(key, i);
                if (before != null) {
                    int period = i - before;
                    return rows.get((int) (before + (n - before) % period));
                }
                rows.add(cur);
                cur = oneNight(cur, from + i);
            }
            return rows.get((int) n);
        }

        int later(int p, int n) {
            return such(p) && n >= 0 && n <= 1_000_000_000 ? rowLater(now, gone, n).get(p) : -2;
        }

        private int rightOf(List<Integer> row) {
            int c = 0;
            for (int p = 0; p < row.size(); p++) {
                c += row.get(p) == p ? 1 : 0;
            }
            return c;
        }

        int right(int n) {
            return places > 0 && n >= 0 && n <= 1_000_000_000 ? rightOf(rowLater(now, gone, n)) : -2;
        }

        int rights() {
            int bits = 0;
            for (int p = 0; p < places; p++) {
                bits += now.get(p) == p ? 1 << p : 0;
            }
            return places == 0 ? -2 : bits;
        }

        private interface Test {
            boolean holds(List<Integer> row);
        }

        private int firstNight(int least, Test test) {
            List<Integer> cur = now;
            for (int n = 0; n <= 5000; n++) {
                if (n >= least && test.holds(cur)) {
                    return n;
                }
                cur = oneNight(cur, gone + n);
            }
            return -1;
        }

        int whole() {
            return places == 0 ? -2 : firstNight(0, r -> r.equals(identity(places)));
        }

        int round() {
            return places == 0 ? -2 : firstNight(1, r -> r.equals(now));
        }

        int comes(int h, int p) {
            return such(h) && such(p) ? firstNight(0, r -> r.get(p) == h) : -2;
        }

        int meet(int h, int o) {
            return such(h) && such(o) && h != o ? firstNight(0, r -> Math.abs(r.indexOf(h) - r.indexOf(o)) == 1) : -2;
        }

        int tonight(int n) {
            if (places == 0 || n < 0 || n > 1_000_000_000) {
                return -2;
            }
            int bits = 0;
            for (int l = 0; l < laws.size(); l++) {
                bits += applies(laws.get(l), (long) gone + n) ? 1 << l : 0;
            }
            return bits;
        }

        int finest(int n) {
            if (places == 0 || n < 0 || n > 5000) {
                return -2;
            }
            int found = 0;
            List<Integer> cur = now;
            int most = -1;
            for (int i = 0; i <= n; i++) {
                if (rightOf(cur) > most) {
                    most = rightOf(cur);
                    found = i;
                }
                cur = oneNight(cur, gone + i);
            }
            return found;
        }

        int spells(int h, int n) {
            if (!such(h) || n < 0 || n > 5000) {
                return -2;
            }
            int c = 0;
            List<Integer> cur = now;
            for (int i = 0; i < n; i++) {
                cur = oneNight(cur, gone + i);
                c += cur.get(h) == h ? 1 : 0;
            }
            return c;
        }

        // ---- swaps: searched for, not counted by rings

        private static final Map<String, Map<List<Integer>, Integer>> SWAPS = new HashMap<>();

        private static Map<List<Integer>, Integer> swapsFromIdentity(int n, int widest) {
            return SWAPS.computeIfAbsent(n + "/" + widest, k -> {
                Map<List<Integer>, Integer> far = new HashMap<>();
                ArrayDeque<List<Integer>> queue = new ArrayDeque<>();
                far.put(identity(n), 0);
                queue.add(identity(n));
                while (!queue.isEmpty()) {
                    List<Integer> r = queue.poll();
                    for (int a = 0; a < n; a++) {
                        for (int b = a + 1; b < n && b - a <= widest; b++) {
                            List<Integer> s = new ArrayList<>(r);
                            java.util.Collections.swap(s, a, b);
                            if (!far.containsKey(s)) {
                                far.put(s, far.get(r) + 1);
                                queue.add(s);
                            }
                        }
                    }
                }
                return far;
            });
        }

        private int swapsBetween(List<Integer> a, List<Integer> b) {
            List<Integer> renamed = new ArrayList<>();
            for (int h : a) {
                renamed.add(b.indexOf(h));
            }
            return swapsFromIdentity(places, 99).get(renamed);
        }

        int odd() {
            return places == 0 ? -2 : swaps() % 2;
        }

        int swaps() {
            return places == 0 ? -2 : swapsBetween(now, identity(places));
        }

        int steps() {
            return places == 0 ? -2 : swapsFromIdentity(places, 1).get(now);
        }

        private int ringOf(int h) {
            int bits = 0;
            for (int x = h; (bits >> x & 1) == 0; x = now.indexOf(x)) {
                bits |= 1 << x;
            }
            return bits;
        }

        int rings() {
            java.util.Set<Integer> all = new java.util.HashSet<>();
            for (int h = 0; h < places; h++) {
                if (Integer.bitCount(ringOf(h)) > 1) {
                    all.add(ringOf(h));
                }
            }
            return places == 0 ? -2 : all.size();
        }

        int stay() {
            int most = 0;
            for (int set = 0; set < 1 << places; set++) {
                int last = -1;
                boolean rises = true;
                for (int p = 0; p < places; p++) {
                    if ((set >> p & 1) != 0) {
                        rises &= now.get(p) > last;
                        last = now.get(p);
                    }
                }
                most = rises ? Math.max(most, Integer.bitCount(set)) : most;
            }
            return places == 0 ? -2 : most;
        }

        int ring(int h) {
            return such(h) ? ringOf(h) : -2;
        }

        int away(int h) {
            return such(h) ? Math.abs(now.indexOf(h) - h) : -2;
        }

        int lost() {
            if (places == 0) {
                return -2;
            }
            int max = 0;
            for (int h = 0; h < places; h++) {
                max = Math.max(max, away(h));
            }
            for (int h = 0; h < places && max > 0; h++) {
                if (away(h) == max) {
                    return h;
                }
            }
            return -1;
        }

        int beside(int h) {
            if (!such(h)) {
                return -2;
            }
            int bits = 0;
            for (int o = 0; o < places; o++) {
                bits += Math.abs(now.indexOf(h) - now.indexOf(o)) == 1 ? 1 << o : 0;
            }
            return bits;
        }

        private int quarrelsIn(List<Integer> row) {
            int c = 0;
            for (int a = 0; a < places; a++) {
                for (int b = a + 1; b < places; b++) {
                    c += foes[a][b] && Math.abs(row.indexOf(a) - row.indexOf(b)) == 1 ? 1 : 0;
                }
            }
            return c;
        }

        int quarrels() {
            return places == 0 ? -2 : quarrelsIn(now);
        }

        // ---- slots' rows

        private int rowOf(int slot, List<Integer> out) {
            if (slot < 0 || slot > 3 || places == 0) {
                return -2;
            }
            if (slots[slot] == null) {
                return -6;
            }
            for (long v : slots[slot]) {
                if (v < 0 || v >= places || out.contains((int) v)) {
                    return -2;
                }
                out.add((int) v);
            }
            return out.size() == places ? 0 : -2;
        }

        private Map<List<Integer>, Integer> leapsFrom(List<Integer> start) {
            Map<List<Integer>, Integer> far = new HashMap<>();
            ArrayDeque<List<Integer>> queue = new ArrayDeque<>();
            far.put(start, 0);
            queue.add(start);
            while (!queue.isEmpty()) {
                List<Integer> r = queue.poll();
                int p = r.indexOf(places - 1);
                for (int q = 0; q < places; q++) {
                    if (leaps.contains(Math.abs(p - q))) {
                        List<Integer> s = new ArrayList<>(r);
                        java.util.Collections.swap(s, p, q);
                        if (far.putIfAbsent(s, far.get(r) + 1) == null) {
                            queue.add(s);
                        }
                    }
                }
            }
            return far;
        }

        int slide(int slot) {
            List<Integer> row = new ArrayList<>();
            int refused = rowOf(slot, row);
            return refused != 0 ? refused : leapsFrom(now).getOrDefault(row, -1);
        }

        /** Of all shortest ways, forwards by levels: the least row of places that leads to each row. */
        int slides(int slot, int i) {
            List<Integer> row = new ArrayList<>();
            int refused = rowOf(slot, row);
            if (refused != 0) {
                return refused;
            }
            Map<List<Integer>, String> level = new HashMap<>();
            level.put(now, "");
            Map<List<Integer>, Integer> far = leapsFrom(now);
            int d = far.getOrDefault(row, -1);
            for (int step = 0; step < d; step++) {
                Map<List<Integer>, String> next = new HashMap<>();
                for (Map.Entry<List<Integer>, String> e : level.entrySet()) {
                    int p = e.getKey().indexOf(places - 1);
                    for (int q = 0; q < places; q++) {
                        if (leaps.contains(Math.abs(p - q))) {
                            List<Integer> s = new ArrayList<>(e.getKey());
                            java.util.Collections.swap(s, p, q);
                            if (far.get(s) == step + 1) {
                                next.merge(s, e.getValue() + q, (x, y) -> x.compareTo(y) < 0 ? x : y);
                            }
                        }
                    }
                }
                level = next;
            }
            return i < 0 || i >= d ? -1 : level.get(row).charAt(i) - '0';
        }

        int reach() {
            return places == 0 ? -2 : leapsFrom(now).size();
        }

        int far() {
            return places == 0 ? -2 : java.util.Collections.max(leapsFrom(now).values());
        }

        // ---- rows tried out one by one

        private static final Map<Integer, List<List<Integer>>> ALL = new HashMap<>();

        private static List<List<Integer>> allRows(int n) {
            return ALL.computeIfAbsent(n, k -> {
                List<List<Integer>> rows = new ArrayList<>();
                extend(n, new ArrayList<>(), rows);
                return rows;
            });
        }

        private static void extend(int n, List<Integer> begun, List<List<Integer>> rows) {
            if (begun.size() == n) {
                rows.add(new ArrayList<>(begun));
                return;
            }
            for (int h = 0; h < n; h++) {
                if (!begun.contains(h)) {
                    begun.add(h);
                    extend(n, begun, rows);
                    begun.remove(begun.size() - 1);
                }
            }
        }

        private final Map<Integer, Integer> guesses = new HashMap<>();

        /** A head for what was seen that is mostly true of one row, so that some rows are left. */
        int truth(int i, int n) {
            return guesses.computeIfAbsent(i % 7, k -> (i * 31 + 5) % n) % n;
        }

        private int fitting(int slot, List<List<Integer>> out) {
            if (slot < 0 || slot > 3 || places == 0) {
                return -2;
            }
            long[] s = slots[slot];
            if (s == null) {
                return -6;
            }
            if (s.length % 3 != 0) {
                return -2;
            }
            for (int i = 0; i < s.length; i++) {
                if (s[i] < 0 || s[i] > (i % 3 == 1 ? 999 : places - 1)) {
                    return -2;
                }
            }
            List<List<Integer>> nightly = new ArrayList<>();
            List<Integer> cur = identity(places);
            for (int n = 0; n <= 999 && s.length > 0; n++) {
                nightly.add(cur);
                cur = oneNight(cur, n);
            }
            for (List<Integer> row : allRows(places)) {
                boolean ok = true;
                for (int i = 0; i < s.length; i += 3) {
                    ok &= row.get(nightly.get((int) s[i + 1]).get((int) s[i])) == (int) s[i + 2];
                }
                if (ok) {
                    out.add(row);
                }
            }
            return 0;
        }

        int fits(int slot) {
            List<List<Integer>> rows = new ArrayList<>();
            int refused = fitting(slot, rows);
            return refused != 0 ? refused : rows.size();
        }

        int fit(int slot, int p) {
            List<List<Integer>> rows = new ArrayList<>();
            int refused = such(p) ? fitting(slot, rows) : -2;
            return refused != 0 ? refused : rows.isEmpty() ? -1 : rows.get(0).get(p);
        }

        private int worst(List<List<Integer>> rows, int p) {
            int[] by = new int[places];
            for (List<Integer> r : rows) {
                by[r.get(p)]++;
            }
            return Arrays.stream(by).max().getAsInt();
        }

        int ask(int slot) {
            List<List<Integer>> rows = new ArrayList<>();
            int refused = fitting(slot, rows);
            if (refused != 0) {
                return refused;
            }
            int found = -1;
            int least = rows.size();
            for (int p = 0; p < places; p++) {
                if (worst(rows, p) < least) {
                    least = worst(rows, p);
                    found = p;
                }
            }
            return found;
        }

        int leaves(int slot) {
            List<List<Integer>> rows = new ArrayList<>();
            int refused = fitting(slot, rows);
            if (refused != 0) {
                return refused;
            }
            int least = rows.size();
            for (int p = 0; p < places; p++) {
                least = Math.min(least, worst(rows, p));
            }
            return least;
        }

        int changed(int slot) {
            List<Integer> row = new ArrayList<>();
            int refused = rowOf(slot, row);
            return refused != 0 ? refused : swapsBetween(now, row);
        }

        int same(int slot) {
            List<Integer> row = new ArrayList<>();
            int refused = rowOf(slot, row);
            int bits = 0;
            for (int p = 0; p < places && refused == 0; p++) {
                bits += row.get(p).equals(now.get(p)) ? 1 << p : 0;
            }
            return refused != 0 ? refused : bits;
        }

        int skipped(int slot) {
            List<Integer> row = new ArrayList<>();
            int refused = rowOf(slot, row);
            return refused != 0 ? refused : fewestLeftOut(now, 0, 0, row);
        }

        private int fewestLeftOut(List<Integer> cur, int l, int left, List<Integer> row) {
            if (l == laws.size()) {
                return cur.equals(row) ? left : -1;
            }
            if (!applies(laws.get(l), gone)) {
                return fewestLeftOut(cur, l + 1, left, row);
            }
            List<Integer> moved = new ArrayList<>(cur);
            java.util.Collections.swap(moved, laws.get(l)[0], laws.get(l)[1]);
            int with = fewestLeftOut(moved, l + 1, left, row);
            int without = fewestLeftOut(cur, l + 1, left + 1, row);
            return with < 0 ? without : without < 0 ? with : Math.min(with, without);
        }

        private List<List<Integer>> parted() {
            List<List<Integer>> rows = new ArrayList<>();
            for (List<Integer> row : allRows(places)) {
                if (quarrelsIn(row) == 0) {
                    rows.add(row);
                }
            }
            return rows;
        }

        int hangs() {
            return places == 0 ? -2 : parted().size();
        }

        int hang(int p) {
            if (!such(p)) {
                return -2;
            }
            List<List<Integer>> rows = parted();
            return rows.isEmpty() ? -1 : rows.get(0).get(p);
        }

        int parts() {
            if (places == 0) {
                return -2;
            }
            int fewest = 99;
            for (List<Integer> row : parted()) {
                fewest = Math.min(fewest, swapsBetween(now, row));
            }
            return fewest == 99 ? -1 : fewest;
        }

        private int sumOf(List<Integer> row) {
            int sum = 0;
            for (int p = 0; p < places; p++) {
                sum += suit[row.get(p)][p];
            }
            return sum;
        }

        private List<List<Integer>> bestRows() {
            List<List<Integer>> rows = new ArrayList<>();
            int most = -1;
            for (List<Integer> row : allRows(places)) {
                if (sumOf(row) > most) {
                    rows.clear();
                    most = sumOf(row);
                }
                if (sumOf(row) == most) {
                    rows.add(row);
                }
            }
            return rows;
        }

        int best() {
            return places == 0 ? -2 : sumOf(bestRows().get(0));
        }

        int bests(int p) {
            return such(p) ? bestRows().get(0).get(p) : -2;
        }

        int ways() {
            return places == 0 ? -2 : bestRows().size();
        }

        int suit() {
            return places == 0 ? -2 : sumOf(now);
        }

        int trade() {
            int most = places == 0 ? 0 : sumOf(now);
            int found = -1;
            for (int a = 0; a < places; a++) {
                for (int b = a + 1; b < places; b++) {
                    List<Integer> row = new ArrayList<>(now);
                    java.util.Collections.swap(row, a, b);
                    if (sumOf(row) > most) {
                        most = sumOf(row);
                        found = 10 * a + b;
                    }
                }
            }
            return places == 0 ? -2 : found;
        }

        private boolean won(List<Integer> been) {
            return lead(been) >= 0;
        }

        private int lead(List<Integer> been) {
            int p = been.get(been.size() - 1);
            for (int q = 0; q < places; q++) {
                if (!been.contains(q) && leaps.contains(Math.abs(p - q))) {
                    List<Integer> next = new ArrayList<>(been);
                    next.add(q);
                    if (!won(next)) {
                        return q;
                    }
                }
            }
            return -1;
        }

        int wins(int p) {
            return such(p) ? won(List.of(p)) ? 1 : 0 : -2;
        }

        int takes(int p) {
            return such(p) ? lead(List.of(p)) : -2;
        }

        private BigInteger[] byLot(int n) {
            BigInteger[] cases = new BigInteger[places];
            Arrays.fill(cases, BigInteger.ZERO);
            cases[now.indexOf(places - 1)] = BigInteger.ONE;
            for (int i = 0; i < n; i++) {
                BigInteger[] next = new BigInteger[places];
                Arrays.fill(next, BigInteger.ZERO);
                for (int p = 0; p < places; p++) {
                    for (int pair = 0; pair < places - 1; pair++) {
                        int q = p == pair ? pair + 1 : p == pair + 1 ? pair : p;
                        next[q] = next[q].add(cases[p]);
                    }
                }
                cases = next;
            }
            return cases;
        }

        long chance(int p, int n, int what) {
            if (!such(p) || n < 0 || n > 12 || what < 0 || what > 1) {
                return -2;
            }
            BigInteger above = byLot(n)[p];
            BigInteger below = BigInteger.valueOf(places - 1).pow(n);
            BigInteger g = above.gcd(below);
            return (what == 0 ? above : below).divide(g).longValueExact();
        }

        int likely(int n) {
            if (places == 0 || n < 0 || n > 12) {
                return -2;
            }
            BigInteger[] cases = byLot(n);
            int found = 0;
            for (int p = 0; p < places; p++) {
                found = cases[p].compareTo(cases[found]) > 0 ? p : found;
            }
            return found;
        }

        private List<Integer> drawnRow(long seed, int n) {
            BigInteger x = BigInteger.valueOf(seed);
            List<Integer> row = new ArrayList<>(now);
            for (int i = 0; i < n; i++) {
                x = x.multiply(BigInteger.valueOf(1103515245)).add(BigInteger.valueOf(12345)).mod(BigInteger.valueOf(2147483648L));
                int d = x.divide(BigInteger.valueOf(65536)).mod(BigInteger.valueOf(places - 1)).intValue();
                java.util.Collections.swap(row, d, d + 1);
            }
            return row;
        }

        int drawn(int seed, int n, int h) {
            boolean fine = such(h) && seed >= 0 && seed <= 2_000_000_000 && n >= 0 && n <= 60;
            return fine ? drawnRow(seed, n).indexOf(h) : -2;
        }

        int luck(int seed, int m, int n, int h) {
            if (m < 1 || m > 20 || drawn(seed, n, h) == -2) {
                return -2;
            }
            int c = 0;
            for (int i = 0; i < m; i++) {
                c += drawnRow((long) seed + i, n).get(h) == h ? 1 : 0;
            }
            return c;
        }

        // ---- acts

        private void keepPast() {
            past.add(new ArrayList<>(now));
            pastGone.add(gone);
        }

        int swap(int a, int b) {
            if (!such(a) || !such(b) || a == b) {
                return -2;
            }
            if (past.size() == 40) {
                return -5;
            }
            keepPast();
            java.util.Collections.swap(now, a, b);
            return rightOf(now);
        }

        int night() {
            if (places == 0) {
                return -2;
            }
            if (past.size() == 40) {
                return -5;
            }
            keepPast();
            now = oneNight(now, gone);
            gone++;
            return rightOf(now);
        }

        int undo() {
            if (places == 0) {
                return -2;
            }
            if (past.isEmpty()) {
                return -5;
            }
            int last = past.size() - 1;
            now = new ArrayList<>(past.remove(last));
            gone = pastGone.remove(last);
            return last;
        }

        int anew() {
            if (places == 0) {
                return -2;
            }
            int were = past.size();
            while (!past.isEmpty()) {
                undo();
            }
            return were;
        }

        int nights() {
            return places == 0 ? -2 : gone;
        }

        int tell(int h, int p, int n) {
            if (!such(h) || !such(p) || n < 0 || n > 99) {
                return -2;
            }
            if (!past.isEmpty()) {
                return -5;
            }
            int was = suit[h][p];
            suit[h][p] = n;
            return was;
        }

        int count(int what) {
            int pairs = 0;
            for (int a = 0; a < 7; a++) {
                for (int b = 0; b < a; b++) {
                    pairs += foes[a][b] ? 1 : 0;
                }
            }
            int filled = 0;
            for (long[] s : slots) {
                filled += s != null ? 1 : 0;
            }
            int[] all = {places, laws.size(), pairs, past.size(), lines, tape.length, filled};
            return what < 0 || what > 6 ? -1 : all[what];
        }

        int image(int k) {
            if (k < 0 || k > 2) {
                return -2;
            }
            images[k] = new Model();
            images[k].takeFrom(this);
            return 0;
        }

        int back(int k) {
            if (k < 0 || k > 2) {
                return -2;
            }
            if (images[k] == null) {
                return -6;
            }
            takeFrom(images[k]);
            return 0;
        }

        int row(int s, int w, int n) {
            if (s < 0 || s > 3 || w < 0 || w > 3 || n > 60) {
                return -2;
            }
            if (n < 0) {
                return -3;
            }
            slots[s] = new long[n];
            widths[s] = w;
            return 0;
        }

        int write(int s, int i, long v) {
            if (s < 0 || s > 3) {
                return -2;
            }
            if (slots[s] == null) {
                return -6;
            }
            if (i < 0 || i >= slots[s].length) {
                return -7;
            }
            int shift = 64 - (8 << widths[s]);
            slots[s][i] = v << shift >> shift;
            return 0;
        }

        int paste(int s, int i, int to, int k, int n) {
            if (s < 0 || s > 3 || to < 0 || to > 3) {
                return -2;
            }
            if (slots[s] == null || slots[to] == null) {
                return -6;
            }
            if (widths[s] != widths[to]) {
                return -8;
            }
            if (i < 0 || k < 0 || n < 0 || (long) i + n > slots[s].length || (long) k + n > slots[to].length) {
                return -7;
            }
            long[] copy = slots[s].clone();
            for (int j = 0; j < n; j++) {
                slots[to][k + j] = copy[i + j];
            }
            return 0;
        }
    }
}
