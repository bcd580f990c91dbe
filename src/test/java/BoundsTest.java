import java.lang.reflect.Method;
import java.util.ArrayList;
import java.util.Arrays;
import java.util.List;

/**
 * Every number of every call just inside its bounds, just outside, and as far out as an int goes,
 * in all their pairings: a call is refused by its own answer if one of them is out, and by no
 * other. Then the same where something else is refused too, where there is no MOTHER and no CAUSE,
 * and where there is no CIRCUIT.
 */
public final class BoundsTest {
    private static final Sentences DOC = new Sentences();
    private static final int DAYS = 6;
    private static final long[] MOTHER = {0, 4};
    private static final long[] CAUSE = {0, 3};
    private static final long[] DAY = {0, DAYS};
    private static final long[] OPEN_DAY = {0, DAYS - 1};
    private static final long[] SLOT = {0, 3};
    private static final long[] HALF = {0, 1};
    private static final long[] SEED = {0, 2000000000};
    private static final String TEXT = "circuit days 6 law 1 odds 5;" + Check.plain(10, 20, 30, 5, 12)
            + "kin 0 1;cause weighs 1 signs 0 at 0;cause weighs 2 signs 3 at 0;cause weighs 3 signs 8 at 5;"
            + "cause weighs 4 signs 1 at 6;";

    private record Call(int promise, String words, String name, long refusal, long[]... bounds) {
        boolean asksOf(long[] kind) {
            return Arrays.stream(bounds).anyMatch(b -> b == kind);
        }

        /** Whether every number is within its bounds, and two who must be unlike are. */
        boolean allows(long[] given) {
            for (int i = 0; i < given.length; i++) {
                if (given[i] < bounds[i][0] || given[i] > bounds[i][1]) {
                    return false;
                }
            }
            return !name.equals("rests") && !name.equals("gets") || given[0] != given[1];
        }
    }

    private static final String NONE_SUCH = "-2: there is none such";
    private static final String NO_SUCH = "-2: there are none such";

    private static final List<Call> CALLS = List.of(
        new Call(3, "NONE, and nothing happens, if it has not so many, or n is below 0", "end", -1, new long[] {0, 20}),
        new Call(5, "NONE for another what", "fault", -1, HALF),
        new Call(6, NO_SUCH, "mother", -2, MOTHER, new long[] {0, 4}),
        new Call(7, NONE_SUCH, "kin", -2, MOTHER),
        new Call(8, NO_SUCH, "cause", -2, CAUSE, new long[] {0, 2}),
        new Call(9, NONE_SUCH, "often", -2, CAUSE),
        new Call(10, NONE_SUCH, "bench", -2, CAUSE),
        new Call(11, NO_SUCH, "found", -2, CAUSE, new long[] {0, 2}),
        new Call(12, "NONE, -2 likewise", "sentence", -2, CAUSE),
        new Call(13, "NONE, -2 likewise", "tried", -2, CAUSE),
        new Call(14, "NONE, -2 likewise", "middle", -2, CAUSE),
        new Call(15, "NONE, -2 likewise", "apart", -2, CAUSE),
        new Call(16, "-2: there is no CIRCUIT", "unheard", -2),
        new Call(17, NO_SUCH, "strict", -2, MOTHER, DAY),
        new Call(18, "-2 likewise", "sat", -2, MOTHER, DAY),
        new Call(19, NONE_SUCH, "hers", -2, MOTHER),
        new Call(20, "-2 likewise", "first", -2, MOTHER),
        new Call(21, "-2 likewise", "agrees", -2, MOTHER),
        new Call(22, "-2 likewise", "sum", -2, MOTHER),
        new Call(23, NO_SUCH, "together", -2, MOTHER, MOTHER),
        new Call(24, "-2: there is none such, no CIRCUIT", "due", -2, DAY),
        new Call(25, NO_SUCH, "owes", -2, CAUSE, DAY),
        new Call(26, NONE_SUCH, "free", -2, CAUSE),
        new Call(27, "-2: there is no CIRCUIT", "most", -2),
        new Call(28, "-2 likewise", "all", -2),
        new Call(29, "-2 likewise", "worst", -2),
        new Call(30, "-2: there is no such DAY, no CIRCUIT", "hardest", -2, DAY),
        new Call(31, "likewise", "softest", -2, DAY),
        new Call(32, "-2: there is no CIRCUIT", "busy", -2),
        new Call(33, "-2 likewise", "idle", -2),
        new Call(34, NONE_SUCH, "docket", -2, OPEN_DAY),
        new Call(35, "-1,000: there is none such", "rise", -1000, MOTHER),
        new Call(36, "-2: there is no such DAY, no CIRCUIT", "writers", -2, DAY),
        new Call(37, NONE_SUCH, "above", -2, MOTHER),
        new Call(38, "-2 likewise", "below", -2, MOTHER),
        new Call(39, "-2: there is no CIRCUIT", "dissent", -2),
        new Call(40, "-2 likewise", "same", -2),
        new Call(41, NONE_SUCH, "gavel", -2, OPEN_DAY),
        new Call(42, NONE_SUCH, "fresh", -2, CAUSE),
        new Call(43, "-2: there is no CIRCUIT", "benches", -2),
        new Call(44, NO_SUCH, "finds", -2, MOTHER, CAUSE),
        new Call(45, NONE_SUCH, "mild", -2, CAUSE),
        new Call(46, "NONE, -2 likewise", "milds", -2, CAUSE),
        new Call(47, "likewise", "harsh", -2, CAUSE),
        new Call(48, "NONE, -2 likewise", "harshes", -2, CAUSE),
        new Call(49, NONE_SUCH, "kind", -2, CAUSE),
        new Call(50, "-2 likewise", "plea", -2, CAUSE),
        new Call(51, "NONE, -2 likewise", "pleas", -2, CAUSE),
        new Call(52, "-2 likewise", "when", -2, CAUSE),
        new Call(53, "-2: there is no CIRCUIT", "blame", -2),
        new Call(54, "-2: there is no such SLOT, MOTHER", "fits", -2, SLOT, MOTHER),
        new Call(55, "-2, -6 likewise", "low", -2, SLOT, MOTHER),
        new Call(56, "NONE, -2, -6 likewise", "high", -2, SLOT, MOTHER),
        new Call(57, "-2, -6 likewise", "ask", -2, SLOT, MOTHER),
        new Call(58, "-2, -6 likewise", "leaves", -2, SLOT, MOTHER),
        new Call(59, "-2 (MOTHER aside; no CIRCUIT), -6 likewise", "laws", -2, SLOT),
        new Call(60, "-2: there is none such, no CIRCUIT", "by", -2, new long[] {0, 3}),
        new Call(61, "-2: there is no CIRCUIT", "law", -2),
        new Call(62, "-2: there is no such set, no CIRCUIT", "worth", -2, new long[] {0, 31}),
        new Call(63, "-1,000,000: there are none such", "share", -1000000, MOTHER, HALF),
        new Call(64, "-2: there are none such, one twice", "rests", -2, CAUSE, CAUSE),
        new Call(65, "-1,000: there are none such, one twice", "gets", -1000, CAUSE, CAUSE, HALF, HALF),
        new Call(66, NO_SUCH, "chance", -2, CAUSE, new long[] {0, 200}, HALF),
        new Call(67, "-2: there are none such, no CIRCUIT", "mean", -2, HALF),
        new Call(68, NO_SUCH, "appeals", -2, CAUSE, OPEN_DAY),
        new Call(69, "-2, -5 likewise", "misses", -2, MOTHER, OPEN_DAY),
        new Call(70, "-2: there is no CIRCUIT", "undo", -2),
        new Call(71, "-2 likewise", "anew", -2),
        new Call(72, "-2: there are none such, no CIRCUIT", "drawn", -2, SEED, HALF),
        new Call(73, NO_SUCH, "luck", -2, SEED, new long[] {1, 20}, CAUSE),
        new Call(74, NO_SUCH, "rate", -2, CAUSE, new long[] {0, 15}),
        new Call(75, "NONE for others", "count", -1, new long[] {0, 9}),
        new Call(76, "-2: no such k", "image", -2, new long[] {0, 2}),
        new Call(77, "-2: no such k", "back", -2, new long[] {0, 2}));

    public static void main(String[] args) throws Exception {
        for (Call call : CALLS) {
            DOC.says(call.promise, call.words);
            inAndOut(call);
            withNobody(call);
            withoutCircuit(call);
        }
        refusalsInOrder();
        List<Object> sections = new ArrayList<>(List.of("I", 78, 79, 80));
        CALLS.forEach(call -> sections.add(call.promise));
        rows();
        writes();
        pastes();
        DOC.close(sections.toArray());
    }

    // ---- benches, new for every call ----

    /** Every SLOT has a row, every IMAGE a CIRCUIT; the tape has 20 bytes, at whose first a FAULT was. */
    private static MotherBench full() {
        MotherBench x = Check.told(TEXT);
        for (int slot = 0; slot < 4; slot++) {
            Check.row(x, slot, slot, 0, x.sentence(0));
        }
        for (int k = 0; k < 3; k++) {
            x.image(k);
        }
        x.feed(-1, -1, -1, -1, -1);
        x.circuit();
        return x;
    }

    private static MotherBench full(String text) {
        MotherBench x = full();
        x.end(0);
        Check.put(x, text);
        x.circuit();
        return x;
    }

    private static long ask(MotherBench x, String name, long... given) throws Exception {
        for (Method m : MotherBench.class.getDeclaredMethods()) {
            if (m.getName().equals(name)) {
                Object[] numbers = new Object[given.length];
                for (int i = 0; i < given.length; i++) {
                    numbers[i] = m.getParameterTypes()[i] == long.class ? (Object) given[i] : (Object) (int) given[i];
                }
                return ((Number) m.invoke(x, numbers)).longValue();
            }
        }
        throw new IllegalArgumentException(name);
    }

    private static String told(String name, long[] given) {
        return name + Arrays.toString(given).replace('[', '(').replace(']', ')');
    }

    /** All pairings of numbers at the edges of some bounds. */
    private static List<long[]> edges(long[][] bounds) {
        List<long[]> given = new ArrayList<>();
        given.add(new long[0]);
        for (long[] b : bounds) {
            long[] values = {b[0] - 1, b[0], b[1], b[1] + 1, Integer.MIN_VALUE, Integer.MAX_VALUE};
            List<long[]> longer = new ArrayList<>();
            for (long[] start : given) {
                for (long value : values) {
                    long[] more = Arrays.copyOf(start, start.length + 1);
                    more[start.length] = value;
                    longer.add(more);
                }
            }
            given = longer;
        }
        return given;
    }

    // ---- what every call does at its edges ----

    private static void inAndOut(Call call) throws Exception {
        for (long[] given : edges(call.bounds)) {
            MotherBench x = full();
            long answer = ask(x, call.name, given);
            boolean refused = answer == call.refusal;
            DOC.due("refused is " + told(call.name, given), refused ? 1 : 0, call.allows(given) ? 0 : 1);
        }
    }

    /** A CIRCUIT of one LINE: whatever asks of a MOTHER or a CAUSE is refused, all else is not. */
    private static void withNobody(Call call) throws Exception {
        if (call.promise <= 5) {
            return;
        }
        boolean none = call.asksOf(MOTHER) || call.asksOf(CAUSE);
        long[] given = Arrays.stream(call.bounds).mapToLong(b -> b[0]).toArray();
        MotherBench x = full("circuit days 6 law 0 odds 0;");
        if (call.name.equals("laws")) {
            x.row(0, 0, 0);
        }
        boolean refused = ask(x, call.name, given) == call.refusal;
        DOC.due("refused with nobody is " + told(call.name, given), refused ? 1 : 0, none ? 1 : 0);
    }

    private static void withoutCircuit(Call call) throws Exception {
        if (call.promise <= 5 || call.promise >= 75) {
            return;
        }
        for (long[] given : edges(call.bounds)) {
            DOC.due(told(call.name, given) + " of a new object", ask(new MotherBench(), call.name, given), call.refusal);
        }
        long[] first = Arrays.stream(call.bounds).mapToLong(b -> b[0]).toArray();
        DOC.due(told(call.name, first) + " with rows and images alone", ask(full(""), call.name, first), call.refusal);
    }

    private static Call named(String name) {
        return CALLS.stream().filter(c -> c.name.equals(name)).findFirst().orElseThrow();
    }

    private static void refusalsInOrder() throws Exception {
        DOC.says("I", "-2 (-1,000) is asked ahead of -5, -6");
        for (String name : new String[] {"appeals", "misses", "rate"}) {
            for (long[] given : edges(named(name).bounds)) {
                MotherBench x = full();
                for (int act = 0; act < 20; act++) {
                    x.misses(0, 1);
                }
                DOC.due(told(name, given) + " with 20 acts", ask(x, name, given), named(name).allows(given) ? -5 : -2);
                DOC.due("acts then", x.count(6), 20);
            }
        }
        DOC.due("undo() of a new object", new MotherBench().undo(), -2);
        for (String name : new String[] {"fits", "low", "high", "ask", "leaves", "laws"}) {
            for (long[] given : edges(named(name).bounds)) {
                DOC.due(told(name, given) + " without rows", ask(Check.told(TEXT), name, given), named(name).allows(given) ? -6 : -2);
            }
        }
        for (long[] given : edges(named("back").bounds)) {
            DOC.due(told("back", given) + " without images", ask(Check.told(TEXT), "back", given), named("back").allows(given) ? -6 : -2);
        }
    }

    // ---- calls that refuse by more than one answer ----

    private static void rows() throws Exception {
        DOC.says(78, "-2: there is no such SLOT or WIDTH (0 .. 3), or n is above 60; -3, and the SLOT stays: n is below 0");
        for (long[] given : edges(new long[][] {{0, 3}, {0, 3}, {0, 60}})) {
            boolean wrong = given[0] < 0 || given[0] > 3 || given[1] < 0 || given[1] > 3 || given[2] > 60;
            MotherBench x = Check.told(TEXT);
            DOC.due(told("row", given), ask(x, "row", given), wrong ? -2 : given[2] < 0 ? -3 : 0);
            DOC.due("SLOTS that have a row then", x.count(9), wrong || given[2] < 0 ? 0 : 1);
        }
    }

    private static void writes() throws Exception {
        DOC.says(79, "-2: there is no such SLOT; -6: it has nothing; -7: there is no such number");
        for (long[] given : edges(new long[][] {{0, 3}, {0, 1}, {Integer.MIN_VALUE, Integer.MAX_VALUE}})) {
            boolean slot = given[0] >= 0 && given[0] <= 3;
            boolean number = given[1] >= 0 && given[1] <= 1;
            DOC.due(told("write", given), ask(full(), "write", given), !slot ? -2 : !number ? -7 : 0);
            DOC.due(told("write", given) + " of nothing", ask(new MotherBench(), "write", given), !slot ? -2 : -6);
        }
        MotherBench x = new MotherBench();
        x.row(1, 0, 0);
        DOC.due("write(1, 0, 0) of an empty row", x.write(1, 0, 0), -7);
    }

    /** SLOTS 0 (of 5 numbers), 1 (of 3) of one WIDTH, 2 of another one, 3 that has nothing. */
    private static void pastes() throws Exception {
        DOC.says(80, "-2: there is no such SLOT; -6: one has nothing; -8: they are not of one WIDTH; "
                + "-7, and nothing happens: some are beyond their rows, or a place or n is below 0");
        int[] lengths = {5, 3, 5};
        for (long[] given : edges(new long[][] {{0, 3}, {0, 2}, {1, 2}, {0, 2}, {0, 2}})) {
            MotherBench x = new MotherBench();
            x.row(0, 2, 5);
            x.row(1, 2, 3);
            x.row(2, 1, 5);
            long want = 0;
            if (given[0] < 0 || given[0] > 3 || given[2] < 0 || given[2] > 3) {
                want = -2;
            } else if (given[0] == 3 || given[2] == 3) {
                want = -6;
            } else if ((given[0] == 2) != (given[2] == 2)) {
                want = -8;
            } else if (given[1] < 0 || given[3] < 0 || given[4] < 0 || given[1] + given[4] > lengths[(int) given[0]]
                    || given[3] + given[4] > lengths[(int) given[2]]) {
                want = -7;
            }
            DOC.due(told("paste", given), ask(x, "paste", given), want);
        }
    }
}
