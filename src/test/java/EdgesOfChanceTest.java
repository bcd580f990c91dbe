import java.math.BigInteger;

/** Term VIII and promises 66 to 77: the edges that their sentences name, each by its own words. */
public final class EdgesOfChanceTest {
    private static final Sentences DOC = new Sentences();
    private static final String CAUSE = "cause weighs 0 signs 0 at 0;";
    private static final String SEVEN = Check.plain(10, 11, 12, 13, 14, 15, 16);
    private static final int[] SEEDS = {0, 1, 2, 12345, 65536, 1000000007, 1999999999, 2000000000};

    public static void main(String[] args) {
        byItself();
        lowestTerms();
        chances();
        means();
        draws();
        drawsBelowOdds();
        decades();
        luck();
        appeals();
        misses();
        twentyActs();
        undo();
        anew();
        rate();
        counts();
        images();
        DOC.close("VIII", 66, 67, 68, 69, 70, 71, 72, 73, 74, 75, 76, 77);
    }

    private static String circuit(int days, int law, int odds) {
        return "circuit days " + days + " law " + law + " odds " + odds + ";";
    }

    private static void fraction(String call, long above, long below, long dueAbove, long dueBelow) {
        DOC.due(call + ", above", above, dueAbove);
        DOC.due(call + ", below", below, dueBelow);
    }

    private static void chance(MotherBench x, int cause, int n, int above, int below) {
        fraction("chance(" + cause + ", " + n + ")", x.chance(cause, n, 0), x.chance(cause, n, 1), above, below);
    }

    private static void mean(MotherBench x, long above, long below) {
        fraction("mean", x.mean(0), x.mean(1), above, below);
    }

    // ---- chance ----

    private static void byItself() {
        DOC.says("VIII", "each CAUSE is brought with odds in ten, by itself (APPEALS of one that is not brought come to nothing)");
        int[][] tenths = {{0, 1}, {1, 10}, {1, 5}, {3, 10}, {2, 5}, {1, 2}, {3, 5}, {7, 10}, {4, 5}, {9, 10}, {1, 1}};
        for (int odds = 0; odds <= 10; odds++) {
            MotherBench x = Check.told(circuit(2, 0, odds) + SEVEN + CAUSE + CAUSE);
            x.appeals(0, 1);
            chance(x, 0, 0, tenths[odds][0], tenths[odds][1]);
            chance(x, 1, 0, tenths[odds][0], tenths[odds][1]);
        }
        // Cause 0 is not brought: its appeal does not sit down 3, 4, 5 ahead of cause 1, who hear it else.
        MotherBench x = Check.told(circuit(3, 0, 5) + Check.plain(1, 1, 1, 9, 9, 9) + "cause weighs 0 signs 0 at 0;cause weighs 0 signs 0 at 2;");
        x.appeals(0, 1);
        // With cause 0 all have sat one, so cause 1 is before 0, 1, 2: 1 always.
        chance(x, 1, 2, 0, 1);
        x.undo();
        // Without the appeal it is before 3, 4, 5 behind cause 0.
        chance(x, 1, 2, 1, 4);
    }

    private static void lowestTerms() {
        DOC.says("VIII", "FRACTIONS are told in lowest terms (0 / 1)");
        MotherBench never = Check.told(circuit(1, 0, 0) + SEVEN + CAUSE.repeat(8));
        chance(never, 7, 0, 0, 1);
        mean(never, 0, 1);
        fraction("share of nothing", Check.told(circuit(1, 0, 0) + SEVEN).share(0, 0), Check.told(circuit(1, 0, 0) + SEVEN).share(0, 1), 0, 1);
        MotherBench always = Check.told(circuit(1, 0, 10) + SEVEN + CAUSE.repeat(8));
        chance(always, 7, 0, 1, 1);
        DOC.due("mean above, always", always.mean(0), always.all());
        DOC.due("mean below, always", always.mean(1), 1);
        mean(Check.told(circuit(1, 0, 5)), 0, 1);
        // 0.5 to the eighth and no more: eight causes must come for 14 more by LAW 2.
        MotherBench half = Check.told(circuit(1, 2, 5) + Check.plain(1, 1, 1) + CAUSE.repeat(8));
        chance(half, 7, 15, 1, 256);
        MotherBench tenth = Check.told(circuit(1, 2, 1) + Check.plain(1, 1, 1) + CAUSE.repeat(8));
        chance(tenth, 7, 15, 1, 100000000);
        MotherBench nine = Check.told(circuit(1, 2, 9) + Check.plain(1, 1, 1) + CAUSE.repeat(8));
        chance(nine, 7, 15, 43046721, 100000000);
    }

    private static void chances() {
        DOC.says(66, "that SENTENCE of a CAUSE is n (0 .. 200) or more (not HEARD: it is not), above (what 0), below (1)");
        MotherBench x = Check.told(circuit(1, 0, 3) + Check.plain(7, 7, 7) + CAUSE + "cause weighs 0 signs 0 at 1;");
        chance(x, 0, 0, 3, 10);
        chance(x, 0, 7, 3, 10);
        chance(x, 0, 8, 0, 1);
        chance(x, 0, 200, 0, 1);
        chance(x, 1, 0, 0, 1);
        MotherBench zero = Check.told(circuit(1, 0, 3) + Check.plain(0, 0, 0) + CAUSE);
        chance(zero, 0, 0, 3, 10);
        chance(zero, 0, 1, 0, 1);
        chance(Check.told(circuit(1, 0, 10) + Check.plain(1, 1) + CAUSE), 0, 0, 0, 1);
        DOC.says(66, "-2: there are none such");
        int[][] none = {{2, 0, 0}, {-1, 0, 0}, {0, -1, 0}, {0, 201, 0}, {0, 0, 2}, {0, 0, -1}};
        for (int[] n : none) {
            DOC.due("chance(" + n[0] + ", " + n[1] + ", " + n[2] + ")", x.chance(n[0], n[1], n[2]), -2);
        }
        DOC.due("it is as it was", x.sentence(0), 7);
    }

    private static void means() {
        DOC.says(67, "The mean of all(), above, below. -2: there are none such, no CIRCUIT");
        MotherBench x = Check.told(circuit(1, 0, 3) + Check.plain(7, 7, 7) + CAUSE + "cause weighs 0 signs 0 at 1;");
        mean(x, 21, 10);
        // 0.1 * 7 each, the chance that both come counted once for each.
        mean(Check.told(circuit(1, 0, 1) + Check.plain(7, 7, 7) + CAUSE + CAUSE), 7, 5);
        mean(Check.told(circuit(1, 0, 9) + Check.plain(7, 7, 7) + CAUSE + CAUSE), 63, 5);
        DOC.due("mean(2)", x.mean(2), -2);
        DOC.due("mean(-1)", x.mean(-1), -2);
        DOC.due("mean(0) without a CIRCUIT", new MotherBench().mean(0), -2);
        // 70 each with odds of 0.9, and 2 more for each pair of which both come: 504 + 45.36.
        MotherBench most = Check.told(circuit(1, 2, 9) + Check.plain(40, 40, 40) + "cause weighs 30 signs 0 at 0;".repeat(8));
        mean(most, 13734, 25);
    }

    // ---- decades drawn ----

    /** The draws from a seed, by numbers that can't overflow. */
    private static int[] drawnFrom(long seed, int n) {
        BigInteger x = BigInteger.valueOf(seed);
        int[] draws = new int[n];
        for (int i = 0; i < n; i++) {
            x = x.multiply(BigInteger.valueOf(1103515245)).add(BigInteger.valueOf(12345)).mod(BigInteger.valueOf(2147483648L));
            draws[i] = x.divide(BigInteger.valueOf(65536)).mod(BigInteger.TEN).intValue();
        }
        return draws;
    }

    private static int comeFrom(long seed, int causes, int odds) {
        int bits = 0;
        int[] draws = drawnFrom(seed, causes);
        for (int c = 0; c < causes; c++) {
            bits |= draws[c] < odds ? 1 << c : 0;
        }
        return bits;
    }

    private static void draws() {
        DOC.says("VIII", "x becomes (1103515245 x + 12345) modulo 2,147,483,648 (at first it is the seed); a draw: x / 65536, cut, modulo 10");
        for (int odds = 0; odds <= 10; odds++) {
            MotherBench x = Check.told(circuit(1, 0, odds) + SEVEN + CAUSE.repeat(8));
            for (int seed : SEEDS) {
                DOC.due("drawn(" + seed + ", 0) by odds of " + odds, x.drawn(seed, 0), comeFrom(seed, 8, odds));
            }
        }
    }

    /** From seed 0 the draws are 0, 8, 8, 7. */
    private static void drawsBelowOdds() {
        DOC.says("VIII", "CAUSE by CAUSE a draw: below odds it is brought");
        int[] come = {0, 1, 1, 1, 1, 1, 1, 1, 9, 15, 15};
        for (int odds = 0; odds <= 10; odds++) {
            MotherBench x = Check.told(circuit(1, 0, odds) + SEVEN + CAUSE.repeat(4));
            DOC.due("drawn(0, 0) by odds of " + odds, x.drawn(0, 0), come[odds]);
        }
    }

    private static void decades() {
        DOC.says(72, "from a seed (0 .. 2,000,000,000), what 0: CAUSES that come, as bits, 1: all() then");
        MotherBench x = Check.told(circuit(1, 0, 8) + Check.plain(5, 5, 5) + CAUSE.repeat(4));
        DOC.due("drawn(0, 1)", x.drawn(0, 1), 10);
        DOC.due("drawn(2000000000, 0)", x.drawn(2000000000, 0), comeFrom(2000000000, 4, 8));
        DOC.due("drawn(2000000000, 1)", x.drawn(2000000000, 1), 5 * Integer.bitCount(comeFrom(2000000000, 4, 8)));
        DOC.due("it is as it was", x.all(), 20);
        DOC.due("drawn(0, 0) of no causes", Check.told(circuit(1, 0, 10)).drawn(0, 0), 0);
        DOC.due("drawn(0, 1) of no causes", Check.told(circuit(1, 0, 10)).drawn(0, 1), 0);
        DOC.due("drawn(0, 1) of none heard", Check.told(circuit(1, 0, 10) + CAUSE).drawn(0, 1), 0);
        DOC.says(72, "-2: there are none such, no CIRCUIT");
        DOC.due("drawn(2000000001, 0)", x.drawn(2000000001, 0), -2);
        DOC.due("drawn(-1, 1)", x.drawn(-1, 1), -2);
        DOC.due("drawn(0, 2)", x.drawn(0, 2), -2);
        DOC.due("drawn(0, -1)", x.drawn(0, -1), -2);
        DOC.due("drawn(0, 0) without a CIRCUIT", new MotherBench().drawn(0, 0), -2);
        // What does not come is not appealed either.
        MotherBench acts = Check.told(circuit(2, 0, 8) + Check.plain(1, 1, 1, 9, 9, 9) + CAUSE);
        acts.appeals(0, 1);
        DOC.due("drawn(0, 1) with an appeal", acts.drawn(0, 1), 9);
        DOC.due("drawn(1, 1): a draw of 8", acts.drawn(1, 1), 0);
    }

    private static void luck() {
        DOC.says(73, "Of n (1 .. 20) such from seeds, the seed and 1, .., in how many a CAUSE is HEARD");
        MotherBench x = Check.told(circuit(1, 0, 5) + SEVEN + CAUSE.repeat(4) + "cause weighs 0 signs 0 at 1;");
        int[] counts = {1, 2, 19, 20};
        for (int seed : SEEDS) {
            for (int n : counts) {
                for (int cause = 0; cause < 4; cause++) {
                    int times = 0;
                    for (int i = 0; i < n; i++) {
                        times += comeFrom((long) seed + i, 4, 5) >> cause & 1;
                    }
                    DOC.due("luck(" + seed + ", " + n + ", " + cause + ")", x.luck(seed, n, cause), times);
                }
            }
        }
        MotherBench always = Check.told(circuit(1, 0, 10) + SEVEN + CAUSE + "cause weighs 0 signs 0 at 1;");
        DOC.due("luck of 20", always.luck(2000000000, 20, 0), 20);
        DOC.due("luck of 1", always.luck(2000000000, 1, 0), 1);
        DOC.due("luck of one that is never HEARD", always.luck(0, 20, 1), 0);
        DOC.says(73, "-2: there are none such");
        int[][] none = {{-1, 1, 0}, {2000000001, 1, 0}, {0, 0, 0}, {0, 21, 0}, {0, -1, 0}, {0, 1, 2}, {0, 1, -1}};
        for (int[] n : none) {
            DOC.due("luck(" + n[0] + ", " + n[1] + ", " + n[2] + ")", always.luck(n[0], n[1], n[2]), -2);
        }
    }

    // ---- acts ----

    private static void appeals() {
        DOC.says(68, "A CAUSE is APPEALED on a DAY ahead of the last (II): its SENTENCE then (NONE: it is not HEARD at all)");
        MotherBench x = Check.told(circuit(3, 0, 0) + SEVEN + "cause weighs 0 signs 0 at 1;cause weighs 0 signs 0 at 3;");
        DOC.due("appeals(0, 0), ahead of it", x.appeals(0, 0), 11);
        DOC.due("appeals(0, 2)", x.appeals(0, 2), 14);
        DOC.due("appeals(0, 2) where one is left", x.appeals(0, 2), 14);
        DOC.due("appeals(1, 2)", x.appeals(1, 2), -1);
        DOC.due("acts, in vain too", x.count(6), 4);
        DOC.says(68, "-2: there are none such");
        DOC.due("appeals(0, 3)", x.appeals(0, 3), -2);
        DOC.due("appeals(0, -1)", x.appeals(0, -1), -2);
        DOC.due("appeals(2, 0)", x.appeals(2, 0), -2);
        DOC.due("appeals(-1, 0)", x.appeals(-1, 0), -2);
        DOC.due("acts then", x.count(6), 4);
    }

    private static void misses() {
        DOC.says(69, "A MOTHER is away on a DAY ahead of the last (II): how many CAUSES are HEARD at all then");
        MotherBench x = Check.told(circuit(3, 0, 0) + Check.plain(1, 2, 3) + CAUSE + CAUSE + "cause weighs 0 signs 0 at 2;");
        DOC.due("misses(0, 1)", x.misses(0, 1), 3);
        DOC.due("misses(2, 2)", x.misses(2, 2), 2);
        DOC.due("misses(1, 0)", x.misses(1, 0), 0);
        DOC.says(69, "-2, -5 likewise");
        DOC.due("misses(0, 3)", x.misses(0, 3), -2);
        DOC.due("misses(0, -1)", x.misses(0, -1), -2);
        DOC.due("misses(3, 0)", x.misses(3, 0), -2);
        DOC.due("misses(-1, 0)", x.misses(-1, 0), -2);
        DOC.due("misses(0, 0) without causes", Check.told(circuit(1, 0, 0) + SEVEN).misses(0, 0), 0);
    }

    private static void twentyActs() {
        DOC.says(68, "-5: there were 20 acts");
        MotherBench x = Check.told(circuit(3, 0, 0) + SEVEN + CAUSE);
        for (int act = 1; act <= 20; act++) {
            DOC.due("act " + act, act % 2 == 0 ? x.appeals(0, 2) : x.misses(6, 1), act == 1 ? 1 : act % 2 == 0 ? 14 : 1);
            DOC.due("acts", x.count(6), act);
        }
        DOC.due("appeals, the 21st", x.appeals(0, 1), -5);
        DOC.due("tried(0) stays", x.tried(0), 2);
        DOC.says(69, "-5 likewise");
        DOC.due("misses, the 21st", x.misses(3, 2), -5);
        DOC.due("bench(0) stays", x.bench(0), 56);
        DOC.due("acts", x.count(6), 20);
        DOC.due("undo()", x.undo(), 19);
        DOC.due("misses, the 20th", x.misses(3, 2), 1);
        DOC.due("bench(0)", x.bench(0), 112);
        // All twenty are looked at, the last one too: 20 appeals, of which the first is heard.
        MotherBench full = Check.told(circuit(14, 0, 0) + SEVEN + CAUSE.repeat(8));
        for (int act = 0; act < 20; act++) {
            full.appeals(act % 8, act % 14);
        }
        DOC.due("HEARINGS of the fullest", hearings(full, 14), 16);
    }

    private static int hearings(MotherBench x, int days) {
        int sum = 0;
        for (int day = 0; day < days; day++) {
            sum += x.docket(day);
        }
        return sum;
    }

    private static void undo() {
        DOC.says(70, "The latest act is taken back: how many there are. -5: there is none; -2: there is no CIRCUIT");
        MotherBench x = Check.told(circuit(3, 0, 0) + SEVEN + CAUSE);
        DOC.due("undo() of none", x.undo(), -5);
        for (int act = 0; act < 20; act++) {
            x.misses(act % 7, 2);
        }
        x.undo();
        x.appeals(0, 2);
        DOC.due("appeals, all away", x.sentence(0), 11);
        for (int left = 19; left >= 0; left--) {
            DOC.due("undo()", x.undo(), left);
            DOC.due("acts", x.count(6), left);
        }
        DOC.due("undo() of none", x.undo(), -5);
        DOC.due("appeals(0, 2) of nobody away", x.appeals(0, 2), 14);
        DOC.due("first(3) of the appeal", x.first(3), 0);
        x.undo();
        DOC.due("first(3) without it", x.first(3), -1);
        DOC.due("sum(3) without it", x.sum(3), 0);
        DOC.due("docket(2) without it", x.docket(2), 0);
        DOC.due("undo() without a CIRCUIT", new MotherBench().undo(), -2);
    }

    private static void anew() {
        DOC.says(71, "All are: how many there were. -2 likewise");
        MotherBench x = Check.told(circuit(3, 0, 0) + SEVEN + CAUSE);
        DOC.due("anew() of none", x.anew(), 0);
        x.appeals(0, 1);
        DOC.due("anew() of one", x.anew(), 1);
        DOC.due("sentence(0)", x.sentence(0), 11);
        for (int act = 0; act < 20; act++) {
            x.misses(0, 0);
        }
        DOC.due("anew() of twenty", x.anew(), 20);
        DOC.due("bench(0)", x.bench(0), 7);
        DOC.due("anew() again", x.anew(), 0);
        DOC.due("undo() then", x.undo(), -5);
        DOC.due("anew() without a CIRCUIT", new MotherBench().anew(), -2);
    }

    private static void rate() {
        DOC.says(74, "signs of a CAUSE are n (0 .. 15) from now on: what they were. -5: there were acts; -2: there are none such");
        MotherBench x = Check.told(circuit(1, 0, 0) + "mother strict 20 ways 1 2 4 8;".repeat(3) + CAUSE);
        int were = 0;
        for (int n = 15; n >= 0; n--) {
            DOC.due("rate(0, " + n + ")", x.rate(0, n), were);
            DOC.due("cause(0, 1)", x.cause(0, 1), n);
            DOC.due("sentence(0)", x.sentence(0), 20 - n);
            were = n;
        }
        DOC.due("rate(0, 16)", x.rate(0, 16), -2);
        DOC.due("rate(0, -1)", x.rate(0, -1), -2);
        DOC.due("rate(1, 0)", x.rate(1, 0), -2);
        x.misses(0, 0);
        DOC.due("rate(0, 1) with acts", x.rate(0, 1), -5);
        DOC.due("rate(0, 16) with acts", x.rate(0, 16), -2);
        DOC.due("cause(0, 1) stays", x.cause(0, 1), 0);
        x.anew();
        DOC.due("rate(0, 1) behind anew()", x.rate(0, 1), 0);
        DOC.due("sentence(0)", x.sentence(0), 19);
    }

    // ---- counts and images ----

    private static void counts() {
        DOC.says(75, "0 days, 1 LAW, 2 odds, 3 MOTHERS, 4 KIN told, 5 CAUSES, 6 acts, 7 LINES, 8 bytes of the TAPE, 9 SLOTS that have a row");
        MotherBench x = Check.told(circuit(14, 3, 10) + SEVEN + "kin 0 1;kin 1 2;" + CAUSE.repeat(8));
        x.misses(0, 0);
        x.feed(0, 0, 0, 0, 0);
        x.row(2, 0, 0);
        int[] due = {14, 3, 10, 7, 2, 8, 1, 18, 20, 1};
        for (int what = 0; what < 10; what++) {
            DOC.due("count(" + what + ")", x.count(what), due[what]);
        }
        for (int slot = 0; slot < 4; slot++) {
            x.row(slot, 3, 60);
        }
        DOC.due("count(9) of all", x.count(9), 4);
        DOC.says(75, "NONE for others");
        for (int what : new int[] {-1, 10, 11, Integer.MIN_VALUE, Integer.MAX_VALUE}) {
            DOC.due("count(" + what + ")", x.count(what), -1);
        }
    }

    private static void images() {
        DOC.says(76, "IMAGE k (0 .. 2) keeps the CIRCUIT, and acts: 0. -2: no such k");
        MotherBench x = new MotherBench();
        for (int k = 0; k < 3; k++) {
            x.end(0);
            Check.put(x, circuit(3, 0, k) + SEVEN + CAUSE);
            x.circuit();
            for (int act = 0; act < k; act++) {
                x.appeals(0, act);
            }
            DOC.due("image(" + k + ")", x.image(k), 0);
        }
        DOC.due("image(3)", x.image(3), -2);
        DOC.due("image(-1)", x.image(-1), -2);
        DOC.says(77, "It is as IMAGE k has it: 0. -2: no such k; -6: it has nothing");
        for (int k : new int[] {1, 0, 2, 2, 1}) {
            x.anew();
            x.rate(0, 7);
            DOC.due("back(" + k + ")", x.back(k), 0);
            DOC.due("odds", x.count(2), k);
            DOC.due("acts", x.count(6), k);
            DOC.due("signs", x.cause(0, 1), 0);
            DOC.due("often(0)", x.often(0), k == 0 ? 1 : 2);
        }
        DOC.due("back(3)", x.back(3), -2);
        DOC.due("back(-1)", x.back(-1), -2);
        MotherBench fresh = Check.told(circuit(3, 0, 0) + SEVEN + CAUSE);
        for (int k = 0; k < 3; k++) {
            DOC.due("back(" + k + ") of nothing", fresh.back(k), -6);
        }
        fresh.image(1);
        DOC.due("back(0) of nothing still", fresh.back(0), -6);
        DOC.due("back(2) of nothing still", fresh.back(2), -6);
        DOC.says(76, "keeps the CIRCUIT, and acts");
        fresh.appeals(0, 0);
        fresh.image(1);
        fresh.anew();
        DOC.due("back(1) to the later image", fresh.back(1), 0);
        DOC.due("acts", fresh.count(6), 1);
        // No CIRCUIT is kept as none: the document does not refuse it.
        MotherBench none = new MotherBench();
        DOC.due("image(0) of no CIRCUIT", none.image(0), 0);
        Check.put(none, circuit(3, 0, 0) + SEVEN + CAUSE);
        none.circuit();
        DOC.due("back(0) to no CIRCUIT", none.back(0), 0);
        DOC.due("all()", none.all(), -2);
        DOC.due("LINES", none.count(7), 0);
    }
}
