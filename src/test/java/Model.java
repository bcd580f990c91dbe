import java.util.ArrayList;
import java.util.Arrays;
import java.util.List;
import java.util.TreeMap;
import java.util.TreeSet;
import java.util.function.ToIntFunction;
import java.util.regex.Matcher;
import java.util.regex.Pattern;

/**
 * The document a second time, written apart from MotherBench and without care for speed or
 * room: every answer is worked out from the words of the text and the list of acts. FuzzTest
 * holds the two against each other.
 */
final class Model {
    static final class World {
        int lines;
        int days;
        int law;
        int odds;
        List<int[]> mothers = new ArrayList<>(); // strict, four ways
        List<int[]> kin = new ArrayList<>();
        List<int[]> causes = new ArrayList<>(); // weighs, signs, at
        List<String> acts = new ArrayList<>(); // "appeal 3 1", "away 2 0"

        World copy() {
            World w = new World();
            w.lines = lines;
            w.days = days;
            w.law = law;
            w.odds = odds;
            mothers.forEach(m -> w.mothers.add(m.clone()));
            kin.forEach(k -> w.kin.add(k.clone()));
            causes.forEach(c -> w.causes.add(c.clone()));
            w.acts.addAll(acts);
            return w;
        }

        boolean areKin(int a, int b) {
            return kin.stream().anyMatch(k -> k[0] == a && k[1] == b || k[0] == b && k[1] == a);
        }
    }

    static final class Hearing {
        int cause;
        int day;
        TreeMap<Integer, Integer> found = new TreeMap<>();

        int sentence() {
            List<Integer> sorted = new ArrayList<>(found.values());
            sorted.sort(null);
            return sorted.get(1);
        }

        int bench() {
            return found.keySet().stream().mapToInt(m -> 1 << m).sum();
        }

        int apart() {
            List<Integer> sorted = new ArrayList<>(found.values());
            sorted.sort(null);
            return sorted.get(2) - sorted.get(0);
        }
    }

    /** All that comes of a world: its hearings, and stricts ahead of each day's. */
    static final class Story {
        List<Hearing> hearings = new ArrayList<>();
        List<int[]> strictByDay = new ArrayList<>();

        Hearing latest(int cause) {
            Hearing last = null;
            for (Hearing h : hearings) {
                if (h.cause == cause) {
                    last = h;
                }
            }
            return last;
        }

        int sentence(int cause) {
            Hearing h = latest(cause);
            return h == null ? -1 : h.sentence();
        }

        int all(World w) {
            int sum = 0;
            for (int c = 0; c < w.causes.size(); c++) {
                sum += Math.max(0, sentence(c));
            }
            return sum;
        }
    }

    private byte[] tape = new byte[0];
    private int fault;
    private int faultPlace = -1;
    private World world = new World();
    private final World[] images = new World[3];
    private final long[][] rows = new long[4][];
    private final int[] widths = new int[4];

    // ---- the story of a world ----

    static int finds(World w, int mother, int strict, int cause) {
        int v = strict + w.causes.get(cause)[0];
        for (int bit = 0; bit < 4; bit++) {
            v -= (w.causes.get(cause)[1] / (1 << bit)) % 2 * w.mothers.get(mother)[1 + bit];
        }
        return v < 0 ? 0 : v;
    }

    static Story play(World w, int brought, int there) {
        Story s = new Story();
        int[] strict = w.mothers.stream().mapToInt(m -> m[0]).toArray();
        for (int day = 0; day <= w.days; day++) {
            s.strictByDay.add(strict.clone());
            if (day == w.days) {
                break;
            }
            for (int c = 0; c < w.causes.size(); c++) {
                if (w.causes.get(c)[2] == day && (brought & 1 << c) != 0) {
                    hear(w, s, strict, c, day, there);
                }
            }
            for (String act : w.acts) {
                String[] p = act.split(" ");
                if (p[0].equals("appeal") && Integer.parseInt(p[2]) == day && s.latest(Integer.parseInt(p[1])) != null) {
                    hear(w, s, strict, Integer.parseInt(p[1]), day, there);
                }
            }
        }
        return s;
    }

    private static void hear(World w, Story s, int[] strict, int cause, int day, int there) {
        List<Integer> coming = new ArrayList<>();
        for (int m = 0; m < w.mothers.size(); m++) {
            final int me = m;
            boolean away = (there & 1 << m) == 0 || w.acts.contains("away " + m + " " + day);
            boolean partial = s.hearings.stream().anyMatch(h -> h.cause == cause && h.found.containsKey(me));
            if (!away && !partial) {
                coming.add(m);
            }
        }
        coming.sort((a, b) -> sat(s, a, 99) != sat(s, b, 99) ? sat(s, a, 99) - sat(s, b, 99) : a - b);
        TreeSet<Integer> bench = new TreeSet<>();
        for (int m : coming) {
            if (bench.size() < 3 && bench.stream().noneMatch(o -> w.areKin(o, m))) {
                bench.add(m);
            }
        }
        if (bench.size() < 3) {
            return;
        }
        Hearing h = new Hearing();
        h.cause = cause;
        h.day = day;
        bench.forEach(m -> h.found.put(m, finds(w, m, strict[m], cause)));
        s.hearings.add(h);
        for (int m : bench) {
            int mine = h.found.get(m);
            int is = strict[m];
            if (w.law == 1 && mine != h.sentence()) {
                is += mine > h.sentence() ? -1 : 1;
            }
            if (w.law == 2 && w.causes.get(cause)[1] == 0) {
                is += 2;
            }
            if (w.law == 3 && mine != h.sentence()) {
                is += mine > h.sentence() ? 1 : -1;
            }
            strict[m] = Math.min(60, Math.max(0, is));
        }
    }

    static int sat(Story s, int mother, int day) {
        return (int) s.hearings.stream().filter(h -> h.day < day && h.found.containsKey(mother)).count();
    }

    private Story now() {
        return play(world, 255, 127);
    }

    // ---- the text ----

    private int readCircuit() {
        String text = new String(tape, java.nio.charset.StandardCharsets.ISO_8859_1);
        Matcher m = Pattern.compile("[a-z]+|[0-9]+|;|[^ \n]", Pattern.DOTALL).matcher(text);
        List<String> tokens = new ArrayList<>();
        List<Integer> places = new ArrayList<>();
        while (m.find()) {
            tokens.add(m.group());
            places.add(m.start());
        }
        tokens.add("<end>");
        places.add(tape.length);
        World w = new World();
        int at = 0;
        fault = 0;
        faultPlace = -1;
        while (at < tokens.size() - 1) {
            String head = tokens.get(at);
            String form = w.lines == 0 ? "circuit days 1-14 law 0-3 odds 0-10 ;" : switch (head) {
                case "mother" -> "mother strict 0-40 ways 0-20 0-20 0-20 0-20 ;";
                case "kin" -> "kin M M ;";
                case "cause" -> "cause weighs 0-30 signs 0-15 at 0-13 ;";
                default -> "<no line>";
            };
            boolean tooMany = w.lines > 0 && (head.equals("mother") && w.mothers.size() == 7
                    || head.equals("kin") && w.kin.size() == 8 || head.equals("cause") && w.causes.size() == 8);
            if (tooMany) {
                return blame(3, places.get(at));
            }
            List<Integer> numbers = new ArrayList<>();
            for (String part : form.split(" ")) {
                String token = tokens.get(at);
                boolean wantsNumber = part.matches("[0-9]+-[0-9]+|M");
                if (wantsNumber ? !token.matches("[0-9]+") : !token.equals(part)) {
                    return blame(1, places.get(at));
                }
                if (wantsNumber) {
                    java.math.BigInteger big = new java.math.BigInteger(token);
                    int v = big.bitLength() > 20 ? 1 << 20 : big.intValue();
                    String[] ends = part.equals("M") ? new String[] {"0", "" + (w.mothers.size() - 1)} : part.split("-");
                    boolean wrong = v < Integer.parseInt(ends[0]) || v > Integer.parseInt(ends[1]);
                    if (part.equals("M") && numbers.size() == 1) {
                        wrong = wrong || v == numbers.get(0) || w.areKin(v, numbers.get(0));
                    }
                    if (wrong) {
                        return blame(2, places.get(at));
                    }
                    numbers.add(v);
                }
                at++;
            }
            int[] n = numbers.stream().mapToInt(i -> i).toArray();
            if (w.lines == 0) {
                w.days = n[0];
                w.law = n[1];
                w.odds = n[2];
            } else {
                (head.equals("mother") ? w.mothers : head.equals("kin") ? w.kin : w.causes).add(n);
            }
            w.lines++;
        }
        world = w;
        tape = new byte[0];
        return w.lines;
    }

    private int blame(int what, int where) {
        fault = what;
        faultPlace = where;
        return -4;
    }

    // ---- calls ----

    private boolean isM(long m) {
        return m >= 0 && m < world.mothers.size();
    }

    private boolean isC(long c) {
        return c >= 0 && c < world.causes.size();
    }

    private boolean stands() {
        return world.lines > 0;
    }

    private boolean isD(long d) {
        return stands() && d >= 0 && d <= world.days;
    }

    private boolean isOpen(long d) {
        return stands() && d >= 0 && d < world.days;
    }

    private static boolean in(long v, long low, long high) {
        return v >= low && v <= high;
    }

    /** The first number below n with the greatest value; -1 if all are 'never'. */
    private static int firstBest(int n, ToIntFunction<Integer> value, int never) {
        int best = -1;
        for (int i = 0; i < n; i++) {
            if (value.applyAsInt(i) != never && (best < 0 || value.applyAsInt(i) > value.applyAsInt(best))) {
                best = i;
            }
        }
        return best;
    }

    private int owes(Story s, int cause, int day) {
        Hearing last = null;
        for (Hearing h : s.hearings) {
            if (h.cause == cause && h.day < day) {
                last = h;
            }
        }
        return last == null ? 0 : Math.max(0, last.sentence() - (day - last.day - 1));
    }

    private int due(Story s, int day) {
        int sum = 0;
        for (int c = 0; c < world.causes.size(); c++) {
            sum += owes(s, c, day);
        }
        return sum;
    }

    /** Sets of three, each as {bits, middle of what they find of the cause as told}. */
    private List<int[]> panels(int cause) {
        List<int[]> sets = new ArrayList<>();
        for (int set = 0; set < 1 << world.mothers.size(); set++) {
            List<Integer> who = new ArrayList<>();
            for (int m = 0; m < 7; m++) {
                if ((set & 1 << m) != 0) {
                    who.add(m);
                }
            }
            if (who.size() != 3 || world.areKin(who.get(0), who.get(1)) || world.areKin(who.get(0), who.get(2))
                    || world.areKin(who.get(1), who.get(2))) {
                continue;
            }
            int[] found = who.stream().mapToInt(m -> cause < 0 ? 0 : finds(world, m, world.mothers.get(m)[0], cause)).toArray();
            Arrays.sort(found);
            sets.add(new int[] {set, found[1]});
        }
        return sets;
    }

    private int[] extremePanel(int cause, int sign) {
        int[] best = null;
        for (int[] p : panels(cause)) {
            if (best == null || sign * p[1] > sign * best[1]) {
                best = p;
            }
        }
        return best;
    }

    private int bestPlea(int cause) {
        int best = -1;
        int least = Integer.MAX_VALUE;
        for (int bits = 0; bits <= 4; bits++) {
            for (int set = 0; set < 16; set++) {
                World w = world.copy();
                w.causes.get(cause)[1] = set;
                int here = play(w, 255, 127).sentence(cause);
                if (Integer.bitCount(set) == bits && here >= 0 && here < least) {
                    least = here;
                    best = set;
                }
            }
        }
        return best;
    }

    private int when(int cause) {
        int[] by = new int[world.days];
        for (int d = 0; d < world.days; d++) {
            World w = world.copy();
            w.causes.get(cause)[2] = d;
            by[d] = play(w, 255, 127).sentence(cause);
        }
        return firstBest(world.days, d -> by[d] < 0 ? -9999 : -by[d], -9999);
    }

    private int blameCause() {
        Story s = now();
        return firstBest(world.causes.size(), c -> {
            int without = play(world, 255 & ~(1 << c), 127).all(world);
            return without < s.all(world) - Math.max(0, s.sentence(c)) ? -without : -99999;
        }, -99999);
    }

    private boolean rowTells(Story s, long[] row) {
        for (int i = 0; i < row.length; i += 2) {
            if (s.sentence((int) row[i]) != row[i + 1]) {
                return false;
            }
        }
        return true;
    }

    private int rowTrouble(int slot) {
        if (rows[slot] == null) {
            return -6;
        }
        if (rows[slot].length % 2 != 0) {
            return -2;
        }
        for (int i = 0; i < rows[slot].length; i += 2) {
            if (!isC(rows[slot][i]) || !in(rows[slot][i + 1], -1, 200)) {
                return -2;
            }
        }
        return 0;
    }

    private long seen(String name, int slot, int mother) {
        if (!in(slot, 0, 3) || !isM(mother)) {
            return -2;
        }
        if (rowTrouble(slot) != 0) {
            return rowTrouble(slot);
        }
        TreeMap<Integer, Story> fit = new TreeMap<>();
        for (int strict = 0; strict <= 40; strict++) {
            World w = world.copy();
            w.mothers.get(mother)[0] = strict;
            Story s = play(w, 255, 127);
            if (rowTells(s, rows[slot])) {
                fit.put(strict, s);
            }
        }
        int[] worst = new int[world.causes.size()];
        for (int c = 0; c < worst.length; c++) {
            TreeMap<Integer, Integer> groups = new TreeMap<>();
            for (Story s : fit.values()) {
                groups.merge(s.sentence(c), 1, Integer::sum);
            }
            worst[c] = groups.values().stream().mapToInt(i -> i).max().orElse(0);
        }
        int ask = firstBest(worst.length, c -> worst[c] < fit.size() ? -worst[c] : -999, -999);
        return switch (name) {
            case "fits" -> fit.size();
            case "low" -> fit.isEmpty() ? -1 : fit.firstKey();
            case "high" -> fit.isEmpty() ? -1 : fit.lastKey();
            case "ask" -> ask;
            default -> ask < 0 ? fit.size() : worst[ask];
        };
    }

    private int laws(int slot) {
        if (!in(slot, 0, 3) || !stands()) {
            return -2;
        }
        if (rowTrouble(slot) != 0) {
            return rowTrouble(slot);
        }
        int bits = 0;
        for (int law = 0; law < 4; law++) {
            World w = world.copy();
            w.law = law;
            bits |= rowTells(play(w, 255, 127), rows[slot]) ? 1 << law : 0;
        }
        return bits;
    }

    private int byLaw(int law) {
        World w = world.copy();
        w.law = law;
        return play(w, 255, 127).all(w);
    }

    /** {above, below} of the mean over all orders, one order after another. */
    private long[] share(int mother) {
        int n = world.mothers.size();
        int[] worth = new int[1 << n];
        for (int set = 0; set < worth.length; set++) {
            worth[set] = play(world, 255, set).all(world);
        }
        long[] sum = new long[2];
        orders(n, 0, mother, worth, sum);
        return lowest(sum[0], sum[1]);
    }

    private static void orders(int n, int come, int mother, int[] worth, long[] sum) {
        if (come == (1 << n) - 1) {
            sum[1]++;
            return;
        }
        for (int m = 0; m < n; m++) {
            if ((come & 1 << m) == 0) {
                long before = sum[1];
                orders(n, come | 1 << m, mother, worth, sum);
                if (m == mother) {
                    sum[0] += (sum[1] - before) * (worth[come | 1 << m] - worth[come]);
                }
            }
        }
    }

    static long[] lowest(long above, long below) {
        java.math.BigInteger g = java.math.BigInteger.valueOf(above).gcd(java.math.BigInteger.valueOf(below));
        return new long[] {above / g.longValue(), below / g.longValue()};
    }

    private int gets(int cause, int other, int kneels, int otherKneels) {
        World w = world.copy();
        int[] c = w.causes.get(cause);
        int[] o = w.causes.get(other);
        c[0] = kneels == 1 ? Math.max(0, c[0] - 5) : c[0];
        o[0] = otherKneels == 1 ? Math.max(0, o[0] - 5) : o[0];
        int sentence = play(w, 255, 127).sentence(cause);
        return 60 - (sentence < 0 ? 0 : sentence) - (kneels == 1 ? 3 : 0);
    }

    private int rests(int cause, int other) {
        int bits = 0;
        for (int a = 0; a < 2; a++) {
            for (int b = 0; b < 2; b++) {
                boolean still = gets(cause, other, a, b) >= gets(cause, other, 1 - a, b)
                        && gets(other, cause, b, a) >= gets(other, cause, 1 - b, a);
                int bit = a == 0 ? (b == 0 ? 1 : 4) : (b == 0 ? 2 : 8);
                bits += still ? bit : 0;
            }
        }
        return bits;
    }

    /** cause below 0: the mean of all(); else the chance that its sentence is n or more. */
    private long[] chances(int cause, int n) {
        int causes = world.causes.size();
        long sum = 0;
        long below = 1;
        for (int c = 0; c < causes; c++) {
            below *= 10;
        }
        for (int brought = 0; brought < 1 << causes; brought++) {
            long weight = 1;
            for (int c = 0; c < causes; c++) {
                weight *= (brought & 1 << c) != 0 ? world.odds : 10 - world.odds;
            }
            Story s = play(world, brought, 127);
            int value = cause < 0 ? s.all(world) : s.latest(cause) != null && s.sentence(cause) >= n ? 1 : 0;
            sum += weight * value;
        }
        return lowest(sum, below);
    }

    private int draw(long seed) {
        java.math.BigInteger x = java.math.BigInteger.valueOf(seed);
        int bits = 0;
        for (int c = 0; c < world.causes.size(); c++) {
            x = x.multiply(java.math.BigInteger.valueOf(1103515245)).add(java.math.BigInteger.valueOf(12345))
                    .mod(java.math.BigInteger.valueOf(2147483648L));
            if (x.longValue() / 65536 % 10 < world.odds) {
                bits |= 1 << c;
            }
        }
        return bits;
    }

    // ---- one call by its name ----

    long call(String name, long[] a) {
        int p = a.length > 0 ? (int) a[0] : 0;
        int q = a.length > 1 ? (int) a[1] : 0;
        int r = a.length > 2 ? (int) a[2] : 0;
        int t = a.length > 3 ? (int) a[3] : 0;
        switch (name) {
            case "feed": case "end": case "circuit": case "fault": case "count": case "image": case "back":
            case "row": case "write": case "paste":
                return plumbing(name, a, p, q, r, t);
            case "mother": case "kin": case "strict": case "sat": case "hers": case "first": case "agrees":
            case "sum": case "together": case "rise": case "above": case "below":
                return ofMother(name, p, q);
            case "cause": case "often": case "bench": case "found": case "sentence": case "tried": case "middle":
            case "apart": case "owes": case "free": case "fresh": case "mild": case "milds": case "harsh":
            case "harshes": case "kind": case "plea": case "pleas": case "when":
                return isC(p) ? ofCause(name, p, q) : -2;
            case "unheard": case "due": case "most": case "all": case "worst": case "hardest": case "softest":
            case "busy": case "idle": case "docket": case "writers": case "dissent": case "same": case "gavel":
            case "benches": case "blame": case "law":
                return stands() ? ofAll(name, p) : -2;
            default:
                return ofRest(name, a, p, q, r, t);
        }
    }

    private long plumbing(String name, long[] a, int p, int q, int r, int t) {
        switch (name) {
            case "feed":
                if (tape.length + 20 > 700) {
                    return -1;
                }
                java.nio.ByteBuffer b = java.nio.ByteBuffer.allocate(tape.length + 20).put(tape);
                for (long v : a) {
                    b.putInt((int) v);
                }
                tape = b.array();
                return tape.length;
            case "end":
                if (!in(p, 0, tape.length)) {
                    return -1;
                }
                tape = Arrays.copyOf(tape, p);
                return p;
            case "circuit":
                return readCircuit();
            case "fault":
                return p == 0 ? fault : p == 1 ? faultPlace : -1;
            case "count":
                long slots = Arrays.stream(rows).filter(x -> x != null).count();
                long[] counts = {world.days, world.law, world.odds, world.mothers.size(), world.kin.size(),
                    world.causes.size(), world.acts.size(), world.lines, tape.length, slots};
                return in(p, 0, 9) ? counts[p] : -1;
            case "image":
                if (!in(p, 0, 2)) {
                    return -2;
                }
                images[p] = world.copy();
                return 0;
            case "back":
                if (!in(p, 0, 2)) {
                    return -2;
                }
                if (images[p] == null) {
                    return -6;
                }
                world = images[p].copy();
                return 0;
            case "row":
                if (!in(p, 0, 3) || !in(q, 0, 3) || r > 60) {
                    return -2;
                }
                if (r < 0) {
                    return -3;
                }
                rows[p] = new long[r];
                widths[p] = q;
                return 0;
            case "write":
                if (!in(p, 0, 3)) {
                    return -2;
                }
                if (rows[p] == null) {
                    return -6;
                }
                if (!in(q, 0, rows[p].length - 1)) {
                    return -7;
                }
                int unused = 64 - (8 << widths[p]);
                rows[p][q] = a[2] << unused >> unused;
                return 0;
            default:
                int n = (int) a[4];
                if (!in(p, 0, 3) || !in(r, 0, 3)) {
                    return -2;
                }
                if (rows[p] == null || rows[r] == null) {
                    return -6;
                }
                if (widths[p] != widths[r]) {
                    return -8;
                }
                if (q < 0 || t < 0 || n < 0 || (long) q + n > rows[p].length || (long) t + n > rows[r].length) {
                    return -7;
                }
                long[] piece = Arrays.copyOfRange(rows[p], q, q + n);
                for (int i = 0; i < n; i++) {
                    rows[r][t + i] = piece[i];
                }
                return 0;
        }
    }

    private long ofMother(String name, int p, int q) {
        if (!isM(p)) {
            return name.equals("rise") ? -1000 : -2;
        }
        Story s = now();
        int times = 0;
        int bits = 0;
        switch (name) {
            case "mother":
                return in(q, 0, 4) ? world.mothers.get(p)[q] : -2;
            case "kin":
                for (int m = 0; m < world.mothers.size(); m++) {
                    bits |= world.areKin(m, p) ? 1 << m : 0;
                }
                return bits;
            case "strict":
                return isD(q) ? s.strictByDay.get(q)[p] : -2;
            case "sat":
                return isD(q) ? sat(s, p, q) : -2;
            case "hers":
                for (Hearing h : s.hearings) {
                    bits |= h.found.containsKey(p) ? 1 << h.cause : 0;
                }
                return bits;
            case "first":
                for (Hearing h : s.hearings) {
                    if (h.found.containsKey(p)) {
                        return h.cause;
                    }
                }
                return -1;
            case "together":
                return isM(q) ? s.hearings.stream().filter(h -> h.found.containsKey(p) && h.found.containsKey(q)).count() : -2;
            case "rise":
                return s.strictByDay.get(world.days)[p] - world.mothers.get(p)[0];
            default:
                for (Hearing h : s.hearings) {
                    if (!h.found.containsKey(p)) {
                        continue;
                    }
                    int mine = h.found.get(p);
                    int more = 0;
                    int less = 0;
                    for (int m : h.found.keySet()) {
                        more += m != p && mine > h.found.get(m) ? 1 : 0;
                        less += m != p && mine < h.found.get(m) ? 1 : 0;
                    }
                    times += switch (name) {
                        case "agrees" -> mine == h.sentence() ? 1 : 0;
                        case "sum" -> mine;
                        case "above" -> more / 2;
                        default -> less / 2;
                    };
                }
                return times;
        }
    }

    private long ofCause(String name, int p, int q) {
        Story s = now();
        Hearing h = s.latest(p);
        int times = 0;
        switch (name) {
            case "cause":
                return in(q, 0, 2) ? world.causes.get(p)[q] : -2;
            case "often":
                return s.hearings.stream().filter(x -> x.cause == p).count();
            case "bench":
                return h == null ? 0 : h.bench();
            case "found":
                return !in(q, 0, 2) ? -2 : h == null ? -1 : new ArrayList<>(h.found.values()).get(q);
            case "sentence":
                return s.sentence(p);
            case "tried":
                return h == null ? -1 : h.day;
            case "middle":
                for (int m = 0; m < 7 && h != null; m++) {
                    if (h.found.containsKey(m) && h.found.get(m) == h.sentence()) {
                        return m;
                    }
                }
                return -1;
            case "apart":
                return h == null ? -1 : h.apart();
            case "owes":
                return isD(q) ? owes(s, p, q) : -2;
            case "free":
                for (int d = h == null ? 99 : h.day + 1; d <= world.days; d++) {
                    if (owes(s, p, d) == 0) {
                        return d;
                    }
                }
                return -1;
            case "fresh":
                for (int m = 0; m < world.mothers.size(); m++) {
                    final int me = m;
                    times |= s.hearings.stream().anyMatch(x -> x.cause == p && x.found.containsKey(me)) ? 0 : 1 << m;
                }
                return times;
            case "mild": case "milds": case "harsh": case "harshes":
                int[] panel = extremePanel(p, name.startsWith("mild") ? -1 : 1);
                return panel == null ? -1 : name.endsWith("s") ? panel[0] : panel[1];
            case "kind":
                List<int[]> sets = panels(p);
                return firstBest(world.mothers.size(),
                        m -> (int) sets.stream().filter(x -> (x[0] & 1 << m) != 0 && x[1] == 0).count(), 0);
            case "plea":
                int best = bestPlea(p);
                return best < 0 ? -1 : Integer.bitCount(best);
            case "pleas":
                return bestPlea(p);
            default:
                return when(p);
        }
    }

    private long ofAll(String name, int p) {
        Story s = now();
        int causes = world.causes.size();
        int mothers = world.mothers.size();
        int bits = 0;
        switch (name) {
            case "unheard":
                for (int c = 0; c < causes; c++) {
                    bits |= s.latest(c) == null ? 1 << c : 0;
                }
                return bits;
            case "due":
                return isD(p) ? due(s, p) : -2;
            case "most":
                return firstBest(world.days + 1, d -> due(s, d), -1);
            case "all":
                return s.all(world);
            case "worst":
                return firstBest(causes, c -> s.sentence(c), -1);
            case "hardest":
                return isD(p) ? firstBest(mothers, m -> s.strictByDay.get(p)[m], -1) : -2;
            case "softest":
                return isD(p) ? firstBest(mothers, m -> -s.strictByDay.get(p)[m], 1) : -2;
            case "busy":
                return firstBest(mothers, m -> sat(s, m, 99), -1);
            case "idle":
                for (int m = 0; m < mothers; m++) {
                    bits |= sat(s, m, 99) == 0 ? 1 << m : 0;
                }
                return bits;
            case "docket":
                return isOpen(p) ? s.hearings.stream().filter(h -> h.day == p).count() : -2;
            case "writers":
                if (!isD(p)) {
                    return -2;
                }
                for (int c = 0; c < causes; c++) {
                    bits |= owes(s, c, p) > 0 ? 1 << c : 0;
                }
                return bits;
            case "dissent":
                return firstBest(causes, c -> s.latest(c) == null ? -1 : s.latest(c).apart(), -1);
            case "same":
                for (int c = 0; c < causes; c++) {
                    for (int o = 0; o < c; o++) {
                        bits += s.latest(c) != null && s.latest(o) != null
                                && s.latest(c).found.keySet().equals(s.latest(o).found.keySet()) ? 1 : 0;
                    }
                }
                return bits;
            case "gavel":
                return isOpen(p) ? s.hearings.stream().filter(h -> h.day == p).mapToInt(Hearing::sentence).sum() : -2;
            case "benches":
                return panels(-1).size();
            case "blame":
                return blameCause();
            default:
                return firstBest(4, law -> -byLaw(law), 1);
        }
    }

    private long ofRest(String name, long[] a, int p, int q, int r, int t) {
        boolean two = isC(p) && isC(q) && p != q;
        switch (name) {
            case "finds":
                return isM(p) && isC(q) ? finds(world, p, world.mothers.get(p)[0], q) : -2;
            case "fits": case "low": case "high": case "ask": case "leaves":
                return seen(name, p, q);
            case "laws":
                return laws(p);
            case "by":
                return stands() && in(p, 0, 3) ? byLaw(p) : -2;
            case "worth":
                return stands() && in(p, 0, (1 << world.mothers.size()) - 1) ? play(world, 255, p).all(world) : -2;
            case "share":
                return isM(p) && in(q, 0, 1) ? share(p)[q] : -1000000;
            case "rests":
                return two ? rests(p, q) : -2;
            case "gets":
                return two && in(r, 0, 1) && in(t, 0, 1) ? gets(p, q, r, t) : -1000;
            case "chance":
                return isC(p) && in(q, 0, 200) && in(r, 0, 1) ? chances(p, q)[r] : -2;
            case "mean":
                return stands() && in(p, 0, 1) ? chances(-1, 0)[p] : -2;
            case "drawn":
                if (!stands() || !in(p, 0, 2000000000) || !in(q, 0, 1)) {
                    return -2;
                }
                return q == 0 ? draw(p) : play(world, draw(p), 127).all(world);
            case "luck":
                if (!isC(r) || !in(p, 0, 2000000000) || !in(q, 1, 20)) {
                    return -2;
                }
                int times = 0;
                for (int i = 0; i < q; i++) {
                    times += play(world, draw((long) p + i), 127).latest(r) != null ? 1 : 0;
                }
                return times;
            default:
                return act(name, p, q);
        }
    }

    private long act(String name, int p, int q) {
        int were = world.acts.size();
        switch (name) {
            case "appeals": case "misses":
                boolean appeal = name.equals("appeals");
                if (!(appeal ? isC(p) : isM(p)) || !isOpen(q)) {
                    return -2;
                }
                if (were == 20) {
                    return -5;
                }
                world.acts.add((appeal ? "appeal " : "away ") + p + " " + q);
                return appeal ? now().sentence(p)
                        : java.util.stream.IntStream.range(0, world.causes.size()).filter(c -> now().latest(c) != null).count();
            case "undo":
                if (!stands()) {
                    return -2;
                }
                if (were == 0) {
                    return -5;
                }
                world.acts.remove(were - 1);
                return were - 1;
            case "anew":
                if (!stands()) {
                    return -2;
                }
                world.acts.clear();
                return were;
            case "rate":
                if (!isC(p) || !in(q, 0, 15)) {
                    return -2;
                }
                if (were > 0) {
                    return -5;
                }
                int before = world.causes.get(p)[1];
                world.causes.get(p)[1] = q;
                return before;
            default:
                throw new IllegalStateException(name);
        }
    }
}
