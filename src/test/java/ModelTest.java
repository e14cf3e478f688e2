import java.lang.reflect.Method;
import java.util.ArrayList;
import java.util.Arrays;
import java.util.List;
import java.util.Random;
import java.util.TreeMap;

/**
 * Random runs of calls, wrong ones among them, on the class and on a model that looks everything
 * up the long way: kept states for undoing, all rows tried for what is least, all sets for chances.
 */
public final class ModelTest {
    private static final int RUNS = 1500, CALLS = 512;
    private static int wrong = 0;

    public static void main(String[] args) throws Exception {
        List<Method> calls = new ArrayList<>();
        for (Method m : LargerPacket.class.getDeclaredMethods()) {
            if (java.lang.reflect.Modifier.isPublic(m.getModifiers())) {
                calls.add(m);
            }
        }
        calls.sort((a, b) -> a.getName().compareTo(b.getName()));
        TreeMap<String, Integer> answered = new TreeMap<>();
        for (int run = 0; run < RUNS && wrong < 20; run++) {
            play(run, calls, answered);
        }
        for (Method m : calls) {
            if (!answered.containsKey(m.getName())) {
                wrong++;
                System.out.println(m.getName() + " never answered anything but a refusal");
            }
        }
        System.out.println(wrong == 0 ? "the class answers as the model does" : wrong + " answers are not as due");
        if (wrong != 0) {
            System.exit(1);
        }
    }

    private static void play(int run, List<Method> calls, TreeMap<String, Integer> answered) throws Exception {
        Random random = new Random(run);
        LargerPacket x = new LargerPacket();
        Model model = new Model();
        StringBuilder told = new StringBuilder();
        int done = 0;
        while (done < CALLS) {
            if (random.nextInt(120) == 0 || done == 0 && run % 8 != 0) {
                done += write(x, model, random, told);
            }
            Method m = calls.get(random.nextInt(calls.size()));
            if (m.getName().matches("text|house|tear|undo") && random.nextInt(4) != 0) {
                continue;
            }
            Object[] args = new Object[m.getParameterCount()];
            for (int a = 0; a < args.length; a++) {
                args[a] = argument(m.getName(), a, random);
            }
            long got = ((Number) m.invoke(x, args)).longValue();
            long want = ((Number) Model.class.getMethod(m.getName(), m.getParameterTypes()).invoke(model, args)).longValue();
            done++;
            told.append(' ').append(m.getName()).append(Arrays.toString(args));
            if (got >= 0 || m.getParameterCount() == 0) {
                answered.merge(m.getName(), 1, Integer::sum);
            }
            if (got != want || x.asked() != model.asked() || x.upper() != model.upper()
                || x.lower() != model.lower() || x.finding() != model.finding() || x.digest() != model.digest()) {
                wrong++;
                System.out.println("run " + run + ", call " + done + ": " + m.getName() + Arrays.toString(args)
                    + " answered " + got + ", the model " + want + " behind" + told);
                return;
            }
        }
    }

    private static int argument(String call, int a, Random random) {
        int[] edges = {Integer.MIN_VALUE, Integer.MAX_VALUE, Integer.MAX_VALUE - 1, -1, 0, 6, 7, 10, 12, 13, 20, 21,
            30, 31, 40, 41, 54, 55, 60, 61, 99, 100, 127, 128, 255, 360, 361};
        if (random.nextInt(12) == 0) {
            return edges[random.nextInt(edges.length)];
        }
        switch (call + a) {
            case "lots1":
                return 1 + random.nextInt(Integer.MAX_VALUE - 1);
            case "lots0":
                return 1 + random.nextInt(6);
            case "price1":
                return random.nextInt(100);
            case "put2":
                return random.nextBoolean() ? random.nextInt(256) : "npchsly0123456789 ".charAt(random.nextInt(18));
            case "put1":
            case "odds0":
            case "text1":
                return random.nextInt(55);
            case "lay2":
                return random.nextBoolean() ? random.nextInt(5) : random.nextInt(200);
            case "least0":
                return random.nextInt(31);
            case "odds1":
            case "mid0":
                return random.nextInt(13);
            case "undo0":
            case "costs1":
            case "grams1":
                return random.nextInt(41);
            case "count0":
                return random.nextInt(16);
            case "off0":
                return random.nextInt(21);
            case "grams2":
                return random.nextInt(40);
            case "buy1":
                return 1 + random.nextInt(3);
            case "weeks0":
            case "waste0":
                return random.nextInt(4);
            case "shop0":
            case "keep0":
            case "on0":
                return random.nextInt(3);
            case "lay0":
            case "row0":
            case "kinds1":
            case "prices1":
                return random.nextInt(2);
            default:
                return random.nextInt(6);
        }
    }

    private static int write(LargerPacket x, Model model, Random random, StringBuilder told) {
        StringBuilder words = new StringBuilder();
        blanks(words, random);
        words.append('n').append(1 + random.nextInt(9)).append(random.nextInt(10)).append(random.nextInt(10));
        int many = random.nextInt(12) == 0 ? 7 : 1 + random.nextInt(6);
        for (int i = 0; i < many; i++) {
            blanks(words, random);
            words.append("pchsly".charAt(random.nextInt(6))).append(1 + random.nextInt(9));
            words.append(random.nextInt(3) == 0 ? 0 : random.nextInt(10)).append(random.nextInt(10));
            words.append(1 + random.nextInt(9));
        }
        blanks(words, random);
        if (random.nextInt(6) == 0) {
            words.setCharAt(random.nextInt(words.length()), " npchsly0a:/".charAt(random.nextInt(12)));
        }
        if (random.nextInt(12) == 0) {
            words.setLength(random.nextInt(words.length()));
        }
        int size = Math.min(60, words.length());
        int t = random.nextInt(4);
        x.text(t, size);
        model.text(t, size);
        for (int i = 0; i < size; i++) {
            x.put(t, i, words.charAt(i));
            model.put(t, i, words.charAt(i));
        }
        int fault = model.fault(t);
        int packets = model.house(t);
        if (x.fault(t) != fault || x.house(t) != packets) {
            wrong++;
            System.out.println("'" + words + "': its FAULT should be " + fault);
        }
        told.append(" house '").append(words).append("'");
        return size + 3;
    }

    private static void blanks(StringBuilder words, Random random) {
        for (int b = random.nextInt(4); b > 2; b--) {
            words.append(' ');
        }
    }

    /** What stands at one time: taken whole, never changed. */
    private static final class Standing {
        int[][] packets = new int[0][];
        int need, room, week, pennies, eaten, hunger, waste, card;
        List<Integer> larder = new ArrayList<>();

        Standing copy() {
            Standing s = new Standing();
            s.packets = new int[packets.length][];
            for (int i = 0; i < packets.length; i++) {
                s.packets[i] = packets[i].clone();
            }
            s.need = need;
            s.room = room;
            s.week = week;
            s.pennies = pennies;
            s.eaten = eaten;
            s.hunger = hunger;
            s.waste = waste;
            s.card = card;
            s.larder = new ArrayList<>(larder);
            return s;
        }

        int gets(int i) {
            return packets[i][0] == 3 ? packets[i][1] / 2 : packets[i][1];
        }

        int keeps(int i) {
            return packets[i][0] == 5 ? packets[i][3] / 2 : packets[i][3];
        }

        int cost(int i, int n) {
            return costOf(packets[i][0], packets[i][2], n, card);
        }

        static int costOf(int kind, int price, int n, int card) {
            int sum = 0;
            for (int k = 1; k <= n; k++) {
                sum += (kind == 2 || kind == 5) && k % 3 == 0 ? 0 : price;
            }
            if ((kind == 1 || kind == 4) && card == 1) {
                sum = (int) Math.floor(sum * 0.75);
            }
            if (kind == 3) {
                sum = sum >> 1;
            }
            return kind == 4 ? Math.max(sum - n, 0) : sum;
        }

        void bring(int i, int n) {
            pennies += cost(i, n);
            for (int g = 0; g < n * gets(i); g++) {
                larder.add(keeps(i));
            }
        }

        void live() {
            larder.sort(null);
            for (int g = 0; g < need; g++) {
                if (larder.isEmpty()) {
                    hunger++;
                } else {
                    larder.remove(0);
                    eaten++;
                }
            }
            List<Integer> left = new ArrayList<>();
            for (int keeps : larder) {
                if (keeps == 0) {
                    waste++;
                } else {
                    left.add(keeps - 1);
                }
            }
            larder = left;
            week++;
        }
    }

    /** The document, told as plainly as can be. */
    public static final class Model {
        private final int[][] rows = new int[6][], texts = new int[4][];
        private List<Standing> story = new ArrayList<>(List.of(new Standing()));
        private final List<List<Standing>> kept = new ArrayList<>(Arrays.asList(null, null, null));
        private int asked = 0, finding = 0;
        private final int[] found = new int[6];
        private long upper = 0, lower = 1;

        private Standing now() {
            return story.get(story.size() - 1);
        }

        private int many() {
            return now().packets.length;
        }

        private int deeds() {
            return story.size() - 1;
        }

        private int find(int f) {
            finding = f;
            found[f]++;
            return -3;
        }

        private int tell(int v) {
            asked = v;
            return 1;
        }

        private static boolean out(int v, int low, int high) {
            return v < low || v > high;
        }

        public int row(int r, int n) {
            if (out(r, 0, 5) || n > 40) return -1;
            if (n < 0) return find(5);
            rows[r] = new int[n];
            return n;
        }

        public int lay(int r, int i, int v) {
            int answer = at(r, i);
            if (answer == 1) rows[r][i] = v;
            return answer;
        }

        public int at(int r, int i) {
            if (out(r, 0, 5)) return -1;
            if (rows[r] == null) return find(1);
            if (out(i, 0, rows[r].length - 1)) return find(2);
            return tell(rows[r][i]);
        }

        public int tear(int r) {
            if (out(r, 0, 5)) return -1;
            if (rows[r] == null) return find(1);
            rows[r] = null;
            return 1;
        }

        public int copy(int r, int i, int to, int j, int n) {
            if (out(r, 0, 5) || out(to, 0, 5)) return -1;
            if (n < 0) return find(5);
            if (rows[r] == null || rows[to] == null) return find(1);
            if (i < 0 || j < 0 || (long) i + n > rows[r].length || (long) j + n > rows[to].length) return find(2);
            int[] ahead = rows[r].clone();
            for (int k = 0; k < n; k++) rows[to][j + k] = ahead[i + k];
            return 1;
        }

        public int mean(int r) {
            if (out(r, 0, 5)) return -1;
            if (rows[r] == null) return find(1);
            if (rows[r].length == 0) return find(4);
            java.math.BigInteger sum = java.math.BigInteger.ZERO;
            for (int v : rows[r]) sum = sum.add(java.math.BigInteger.valueOf(v));
            return tell(sum.divide(java.math.BigInteger.valueOf(rows[r].length)).intValue());
        }

        public int text(int t, int n) {
            if (out(t, 0, 3) || n > 60) return -1;
            if (n < 0) return find(5);
            texts[t] = new int[n];
            Arrays.fill(texts[t], 32);
            return n;
        }

        public int put(int t, int i, int v) {
            if (out(t, 0, 3)) return -1;
            if (texts[t] == null) return find(1);
            if (out(i, 0, texts[t].length - 1)) return find(2);
            int was = texts[t][i];
            texts[t][i] = (byte) v;
            return was + 1000;
        }

        /** A text is right as far as some text without a fault begins with it. */
        public int fault(int t) {
            if (out(t, 0, 3)) return -1;
            if (texts[t] == null) return find(1);
            StringBuilder words = new StringBuilder();
            for (int v : texts[t]) words.append((char) (v & 255));
            String[] item = {"[pchsly]", "[1-9]", "[0-9]", "[0-9]", "[1-9]"};
            if (words.toString().matches(" *n[1-9][0-9][0-9]( *[pchsly][1-9][0-9][0-9][1-9]){1,6} *")) return -9;
            List<String> shapes = new ArrayList<>();
            String shape = " *";
            shapes.add(shape);
            for (String sign : new String[] {"n", "[1-9]", "[0-9]", "[0-9]"}) shapes.add(shape += sign);
            for (int i = 0; i < 6; i++) {
                shapes.add(shape += " *");
                for (String sign : item) shapes.add(shape += sign);
            }
            shapes.add(shape + " *");
            for (int length = words.length(); length > 0; length--) {
                String begin = words.substring(0, length);
                for (String s : shapes) {
                    if (begin.matches(s)) return length;
                }
            }
            return 0;
        }

        public int house(int t) {
            int fault = fault(t);
            if (fault == -1 || fault == -3) return fault;
            if (fault != -9) return -4;
            StringBuilder words = new StringBuilder();
            for (int v : texts[t]) if (v != 32) words.append((char) v);
            Standing s = new Standing();
            s.need = words.charAt(1) - '0';
            s.room = Integer.parseInt(words.substring(2, 4));
            s.packets = new int[(words.length() - 4) / 5][];
            for (int i = 0; i < s.packets.length; i++) {
                String p = words.substring(4 + 5 * i, 9 + 5 * i);
                s.packets[i] = new int[] {"pchsly".indexOf(p.charAt(0)), p.charAt(1) - '0',
                    Integer.parseInt(p.substring(2, 4)), p.charAt(4) - '0'};
            }
            story = new ArrayList<>(List.of(s));
            for (int k = 0; k < 3; k++) kept.set(k, null);
            return s.packets.length;
        }

        private int[] all(int i) {
            Standing s = now();
            int[] p = s.packets[i];
            return new int[] {p[0], p[1], p[2], s.keeps(i), s.cost(i, 1), s.gets(i)};
        }

        public int packet(int i, int what) {
            if (out(i, 0, many() - 1) || out(what, 0, 5)) return -1;
            return tell(all(i)[what]);
        }

        private static boolean is(int kind, int of) {
            return kind == of || of == 0 || kind == 4 && of == 1 || kind == 5 && of == 2;
        }

        public int mark(int i, int kind) {
            if (out(i, 0, many() - 1) || out(kind, 1, 5)) return -1;
            Standing s = now();
            int[] p = s.packets[i];
            if (!is(p[0], kind)) return find(3);
            if (kind == 1) return Standing.costOf(p[0], p[2], 1, 0) - Standing.costOf(p[0], p[2], 1, 1);
            if (kind == 2) return 3 * s.cost(i, 1) - s.cost(i, 3);
            if (kind == 3) return p[1] - s.gets(i);
            if (kind == 4) return Standing.costOf(1, p[2], 1, s.card) - s.cost(i, 1);
            return p[3] - s.keeps(i);
        }

        public int larder(int k) {
            if (out(k, 0, 9)) return -1;
            int sum = 0;
            for (int keeps : now().larder) sum += keeps == k ? 1 : 0;
            return sum;
        }

        private Standing next() {
            Standing s = now().copy();
            story.add(s);
            return s;
        }

        public int buy(int i, int n) {
            if (out(i, 0, many() - 1) || out(n, 1, 3)) return -1;
            if (now().larder.size() + n * now().gets(i) > now().room) return -6;
            if (deeds() == 40) return -2;
            int before = now().pennies;
            next().bring(i, n);
            return now().pennies - before;
        }

        public int week() {
            if (many() == 0) return -4;
            if (deeds() == 40) return -2;
            int before = now().waste;
            next().live();
            return now().waste - before;
        }

        public int shrink(int i) {
            if (out(i, 0, many() - 1)) return -1;
            if (now().packets[i][1] == 1) return -4;
            if (deeds() == 40) return -2;
            return --next().packets[i][1];
        }

        public int price(int i, int v) {
            if (out(i, 0, many() - 1) || out(v, 0, 99)) return -1;
            int was = now().packets[i][2];
            if (was == v) return -4;
            if (deeds() == 40) return -2;
            next().packets[i][2] = v;
            return was;
        }

        public int card(int has) {
            if (out(has, 0, 1)) return -1;
            if (many() == 0 || now().card == has) return -4;
            if (deeds() == 40) return -2;
            return next().card = has;
        }

        public int undo(int n) {
            if (out(n, 0, deeds() - 1)) return -1;
            int undone = deeds() - n;
            story = new ArrayList<>(story.subList(0, n + 1));
            return undone;
        }

        public int keep(int k) {
            if (out(k, 0, 2)) return -1;
            if (many() == 0) return -4;
            kept.set(k, new ArrayList<>(story));
            return deeds();
        }

        public int on(int k) {
            if (out(k, 0, 2)) return -1;
            if (kept.get(k) == null) return find(1);
            story = new ArrayList<>(kept.get(k));
            return deeds();
        }

        public int costs(int i, int n) {
            if (out(i, 0, many() - 1) || out(n, 0, 40)) return -1;
            return now().cost(i, n);
        }

        private int ratio(long over, long under) {
            long d = java.math.BigInteger.valueOf(over).gcd(java.math.BigInteger.valueOf(under)).longValue();
            upper = over / d;
            lower = under / d;
            return 1;
        }

        public int rate(int i) {
            if (out(i, 0, many() - 1)) return -1;
            if (now().gets(i) == 0) return -4;
            return ratio(now().cost(i, 1), now().gets(i));
        }

        private double rateOf(int i) {
            return now().cost(i, 1) / (double) now().gets(i);
        }

        public int cheapest() {
            if (many() == 0) return -4;
            double least = 1e9;
            for (int i = 0; i < many(); i++) if (now().gets(i) > 0) least = Math.min(least, rateOf(i));
            int bits = 0;
            for (int i = 0; i < many(); i++) if (now().gets(i) > 0 && rateOf(i) - least < 1e-9) bits |= 1 << i;
            if (bits == 0) return -9;
            tell(bits);
            return Integer.numberOfTrailingZeros(bits);
        }

        public int larger() {
            int pairs = 0;
            int first = -9;
            for (int i = many() - 1; i >= 0; i--) {
                for (int j = many() - 1; j > i; j--) {
                    int a = now().gets(i);
                    int b = now().gets(j);
                    if (a == 0 || b == 0) continue;
                    if (a > b && rateOf(i) > rateOf(j) + 1e-9 || b > a && rateOf(j) > rateOf(i) + 1e-9) {
                        pairs++;
                        first = 6 * i + j;
                    }
                }
            }
            tell(first);
            return pairs;
        }

        public int least(int v, int r) {
            if (out(v, 0, 30) || out(r, 0, 5)) return -1;
            if (many() == 0) return -4;
            int best = Integer.MAX_VALUE;
            int[] bestRow = null;
            for (int code = 0; code < 1 << 2 * many(); code++) {
                int[] row = new int[many()];
                int sum = 0;
                int grams = 0;
                for (int i = 0; i < many(); i++) {
                    row[i] = code >> 2 * (many() - 1 - i) & 3;
                    sum += now().cost(i, row[i]);
                    grams += row[i] * now().gets(i);
                }
                if (grams >= v && sum < best) {
                    best = sum;
                    bestRow = row;
                }
            }
            if (bestRow == null) return -9;
            rows[r] = bestRow;
            return best;
        }

        /** All rows of n WEEKS without HUNGER, in order: PENNIES, WASTE, then the row. */
        private List<int[]> plans(int n) {
            List<int[]> good = new ArrayList<>();
            int choices = many() + 1;
            int codes = (int) Math.round(Math.pow(choices, n));
            for (int code = 0; code < codes; code++) {
                Standing s = now().copy();
                int[] plan = new int[n + 2];
                boolean possible = true;
                int rest = code;
                for (int w = n - 1; w >= 0; w--) {
                    plan[w + 2] = rest % choices - 1;
                    rest /= choices;
                }
                for (int w = 0; w < n; w++) {
                    int i = plan[w + 2];
                    if (i >= 0) {
                        s.bring(i, 1);
                        possible &= s.larder.size() <= s.room;
                    } else {
                        plan[w + 2] = -9;
                    }
                    s.live();
                }
                plan[0] = s.pennies - now().pennies;
                plan[1] = s.waste - now().waste;
                if (possible && s.hunger == now().hunger) good.add(plan);
            }
            return good;
        }

        public int weeks(int n, int r) {
            if (out(n, 0, 3) || out(r, 0, 5)) return -1;
            if (many() == 0) return -4;
            int[] best = null;
            for (int[] plan : plans(n)) if (best == null || plan[0] < best[0]) best = plan;
            if (best == null) return -9;
            rows[r] = Arrays.copyOfRange(best, 2, n + 2);
            return best[0];
        }

        public int waste(int n) {
            if (out(n, 0, 3)) return -1;
            if (many() == 0) return -4;
            int[] best = null;
            for (int[] plan : plans(n)) if (best == null || plan[1] < best[1]) best = plan;
            return best == null ? -9 : best[1];
        }

        public int off(int n) {
            if (out(n, 0, 20)) return -1;
            if (many() == 0) return -4;
            Standing s = now().copy();
            for (int w = 0; w < n; w++) s.live();
            return s.waste - now().waste;
        }

        public int lasts() {
            if (many() == 0) return -4;
            Standing s = now().copy();
            for (int w = 0; w < 30; w++) {
                s.live();
                if (s.hunger > now().hunger) return w;
            }
            return 30;
        }

        public int looks(int c, int v) {
            if (out(c, 0, 9) || out(v, 1, 9)) return -1;
            if (many() == 0) return -4;
            int best = Integer.MAX_VALUE;
            int looked = -9;
            for (int m = many(); m >= 1; m--) {
                for (int i = 0; i < m; i++) {
                    if (now().gets(i) >= v && m * c + now().cost(i, 1) <= best) {
                        best = m * c + now().cost(i, 1);
                        looked = m;
                    }
                }
            }
            if (looked != -9) tell(best);
            return looked;
        }

        private int pairs(int r) {
            if (rows[r] == null) return find(1);
            if (rows[r].length > 12 || rows[r].length % 2 == 1) return find(5);
            for (int p = 0; p < rows[r].length; p += 2) {
                if (out(rows[r][p], 0, 20) || rows[r][p + 1] < 0) return find(3);
            }
            return 0;
        }

        private boolean fits(int r, int kind, int price) {
            for (int p = 0; p < rows[r].length; p += 2) {
                if (Standing.costOf(kind, price, rows[r][p], now().card) != rows[r][p + 1]) return false;
            }
            return true;
        }

        public int kinds(int i, int r) {
            if (out(i, 0, many() - 1) || out(r, 0, 5)) return -1;
            if (pairs(r) != 0) return -3;
            int bits = 0;
            for (int kind = 0; kind < 6; kind++) bits |= fits(r, kind, now().packets[i][2]) ? 1 << kind : 0;
            return bits;
        }

        public int prices(int i, int r) {
            if (out(i, 0, many() - 1) || out(r, 0, 5)) return -1;
            if (pairs(r) != 0) return -3;
            int sum = 0;
            int least = -9;
            for (int v = 99; v >= 0; v--) {
                if (fits(r, now().packets[i][0], v)) {
                    sum++;
                    least = v;
                }
            }
            tell(least);
            return sum;
        }

        public int grams(int i, int n, int v) {
            if (out(i, 0, many() - 1) || out(n, 1, 40) || out(v, 0, 360)) return -1;
            int bits = 0;
            for (int g = 1; g <= 9; g++) {
                int sum = 0;
                for (int k = 0; k < n; k++) sum += now().packets[i][0] == 3 ? g / 2 : g;
                bits |= sum == v ? 1 << g : 0;
            }
            return bits;
        }

        private int shopFrom(Standing s, int n, int sum) {
            if (n == 0) return sum;
            int most = Integer.MIN_VALUE;
            for (int dearer = -1; dearer < many(); dearer++) {
                Standing then = s.copy();
                if (dearer >= 0) then.packets[dearer][2] = Math.min(99, then.packets[dearer][2] + 7);
                int little = Integer.MAX_VALUE;
                for (int i = 0; i < many(); i++) {
                    little = Math.min(little, shopFrom(then, n - 1, sum + then.cost(i, 1) - 5 * then.gets(i)));
                }
                most = Math.max(most, little);
            }
            return most;
        }

        public int shop(int n) {
            if (out(n, 0, 2)) return -1;
            if (many() == 0) return -4;
            return tell(shopFrom(now(), n, 0));
        }

        public int odds(int v, int p) {
            if (out(v, 0, 54) || out(p, 0, 12)) return -1;
            if (many() == 0) return -4;
            long enough = 0;
            long all = 0;
            for (int there = 0; there < 1 << many(); there++) {
                long weight = 1;
                int grams = 0;
                for (int i = 0; i < many(); i++) {
                    boolean is = (there >> i & 1) == 1;
                    weight *= is ? 12 - p : p;
                    grams += is ? now().gets(i) : 0;
                }
                all += weight;
                enough += grams >= v ? weight : 0;
            }
            return ratio(enough, all);
        }

        public int mid(int p) {
            if (out(p, 0, 12)) return -1;
            if (many() == 0) return -4;
            long sum = 0;
            long all = 0;
            for (int there = 0; there < 1 << many(); there++) {
                long weight = 1;
                long cost = 0;
                for (int i = 0; i < many(); i++) {
                    boolean is = (there >> i & 1) == 1;
                    weight *= is ? 12 - p : p;
                    cost += is ? now().cost(i, 1) : 0;
                }
                all += weight;
                sum += weight * cost;
            }
            return ratio(sum, all);
        }

        public int lots(int n, int seed) {
            if (out(n, 1, 20) || out(seed, 1, 2147483646)) return -1;
            if (many() == 0) return -4;
            if (deeds() + n > 40) return -2;
            java.math.BigInteger lot = java.math.BigInteger.valueOf(seed);
            for (int d = 0; d < n; d++) {
                lot = lot.multiply(java.math.BigInteger.valueOf(48271)).mod(java.math.BigInteger.valueOf(2147483647));
                int x = lot.intValue();
                int what = x / 8 % 4;
                int i = x % many();
                boolean done = what < 2 ? buy(i, 1) >= 0 : what == 3 && shrink(i) >= 0;
                if (!done) week();
            }
            return now().larder.size();
        }

        public int asked() {
            return asked;
        }

        public long upper() {
            return upper;
        }

        public long lower() {
            return lower;
        }

        public int count(int what) {
            if (out(what, 0, 15)) return -1;
            Standing s = now();
            int cards = 0;
            int heaps = 0;
            for (int[] p : s.packets) {
                cards += is(p[0], 1) ? 1 : 0;
                heaps += is(p[0], 2) ? 1 : 0;
            }
            int rowsThere = 0;
            for (int[] row : rows) rowsThere += row == null ? 0 : 1;
            int textsThere = 0;
            for (int[] text : texts) textsThere += text == null ? 0 : 1;
            int housesKept = 0;
            for (List<Standing> k : kept) housesKept += k == null ? 0 : 1;
            return new int[] {s.packets.length, s.week, deeds(), s.pennies, s.larder.size(), s.eaten, s.hunger, s.waste,
                s.card, cards, heaps, rowsThere, textsThere, housesKept, s.need, s.room}[what];
        }

        public int finding() {
            return finding;
        }

        public int findings(int f) {
            return out(f, 1, 5) ? -1 : found[f];
        }

        public long digest() {
            List<Integer> values = new ArrayList<>();
            for (int what = 0; what < 16; what++) values.add(count(what));
            for (int k = 0; k < 10; k++) values.add(larder(k));
            for (int i = 0; i < many(); i++) for (int v : all(i)) values.add(v);
            for (List<Standing> k : kept) values.add(k == null ? -1 : k.size() - 1);
            for (int[][] lists : new int[][][] {rows, texts}) {
                for (int[] list : lists) {
                    values.add(list == null ? -1 : list.length);
                    if (list != null) for (int v : list) values.add(v);
                }
            }
            long h = 17;
            for (int v : values) h = 31 * h + v;
            return h;
        }
    }
}
