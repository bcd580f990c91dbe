import java.lang.reflect.Method;
import java.util.ArrayList;
import java.util.List;
import java.util.function.Consumer;
import java.util.function.ToLongFunction;

/**
 * Two benches made alike, one of which is asked once more than the other: by a call that is refused,
 * or by one that only asks. All that can be seen of them then is the same.
 */
public final class RefusedTest {
    private static final Sentences DOC = new Sentences();
    private static final String TEXT = "circuit days 6 law 3 odds 5;mother strict 10 ways 1 2 3 4;mother strict 20 ways 5 0 0 0;"
            + "mother strict 30 ways 0 10 0 0;mother strict 5 ways 0 0 0 20;mother strict 12 ways 2 2 2 2;"
            + "mother strict 3 ways 0 1 0 1;mother strict 33 ways 9 0 9 0;kin 0 1;kin 2 5;"
            + "cause weighs 10 signs 0 at 0;cause weighs 4 signs 3 at 0;cause weighs 9 signs 8 at 2;cause weighs 7 signs 1 at 9;";
    private static final String OTHER = "circuit days 2 law 0 odds 1;" + Check.plain(7, 8, 9) + "cause weighs 2 signs 1 at 1;";

    public static void main(String[] args) throws Exception {
        tape();
        circuits();
        acts();
        images();
        rows();
        questions();
        DOC.close(2, 3, 4, 68, 69, 70, 74, 76, 77, 78, 79, 80, "Not promised");
    }

    /** A CIRCUIT with acts, rows (SLOT 3 has none), two IMAGES (2 has none), and some bytes on the tape. */
    private static MotherBench made() {
        MotherBench x = Check.told(OTHER);
        x.misses(0, 1);
        x.image(0);
        Check.put(x, TEXT);
        x.circuit();
        x.appeals(0, 1);
        x.image(1);
        x.misses(3, 2);
        Check.row(x, 0, 3, 0, x.sentence(0), 2, x.sentence(2));
        Check.row(x, 1, 3, 1, x.sentence(1), 3, -1);
        Check.row(x, 2, 0, 1, x.sentence(1));
        Check.put(x, "circuit days 3 law 2 odds 1 ;");
        return x;
    }

    /** All that can be seen, in fewer calls than an object is good for; the bench is used up by it. */
    private static List<Long> seen(MotherBench x) {
        List<Long> all = new ArrayList<>();
        glance(x, all);
        for (int m = 0; m < 7; m++) {
            for (int what = 0; what < 5; what++) {
                all.add((long) x.mother(m, what));
            }
            all.add((long) x.kin(m));
            all.add((long) x.strict(m, 6));
            all.add((long) x.sum(m));
        }
        for (int slot = 0; slot < 4; slot++) {
            all.add((long) x.laws(slot));
            all.add((long) x.fits(slot, 2));
            all.add((long) x.low(slot, 2));
            all.add((long) x.paste(slot, 0, 0, 0, 0));
            all.add((long) x.write(slot, 1, 9));
            all.add((long) x.write(slot, 2, 9));
            all.add((long) x.write(slot, 4, 9));
        }
        for (int k = 0; k < 3; k++) {
            all.add((long) x.back(k));
            glance(x, all);
            all.add((long) x.undo());
            glance(x, all);
        }
        all.add((long) x.circuit());
        glance(x, all);
        return all;
    }

    private static void glance(MotherBench x, List<Long> all) {
        for (int what = 0; what < 10; what++) {
            all.add((long) x.count(what));
        }
        all.add((long) x.fault(0));
        all.add((long) x.fault(1));
        for (int c = 0; c < 4; c++) {
            all.add((long) x.cause(c, 1));
            all.add((long) x.bench(c));
            all.add((long) x.sentence(c));
        }
        all.add((long) x.due(2));
    }

    private static void unchanged(String call, Consumer<MotherBench> ahead, ToLongFunction<MotherBench> asked, long refusal) {
        MotherBench x = made();
        MotherBench twin = made();
        ahead.accept(x);
        ahead.accept(twin);
        DOC.due(call, asked.applyAsLong(x), refusal);
        DOC.due(call + " changes nothing", seen(x).equals(seen(twin)) ? 1 : 0, 1);
    }

    private static void unchanged(String call, ToLongFunction<MotherBench> asked, long refusal) {
        unchanged(call, x -> { }, asked, refusal);
    }

    private static void tape() {
        DOC.says(2, "NONE, and none come, if it would have more than 700");
        unchanged("feed to a full tape", x -> Check.put(x, " ".repeat(671)), x -> x.feed(-1, -1, -1, -1, -1), -1);
        unchanged("feed to a tape of 681", x -> Check.put(x, " ".repeat(652)), x -> x.feed(-1, -1, -1, -1, -1), -1);
        DOC.says(3, "NONE, and nothing happens, if it has not so many, or n is below 0");
        unchanged("end(30)", x -> x.end(30), -1);
        unchanged("end(-1)", x -> x.end(-1), -1);
    }

    /** The fault itself is told anew, so both have had it: the second time it changes nothing. */
    private static void circuits() {
        DOC.says(4, "-4: a FAULT (all stays)");
        unchanged("circuit()", x -> {
            Check.put(x, "kin 0 0;");
            x.circuit();
        }, MotherBench::circuit, -4);
        MotherBench x = made();
        MotherBench twin = made();
        x.end(28);
        DOC.due("circuit() without its sign", x.circuit(), -4);
        Check.put(x, ";");
        List<Long> one = seen(x);
        List<Long> other = seen(twin);
        int fault = 10;
        DOC.due("the fault alone is told", one.get(fault), 1);
        int unlike = 0;
        for (int i = 0; i < one.size(); i++) {
            unlike += one.get(i).equals(other.get(i)) ? 0 : 1;
        }
        // fault(0) and fault(1) of all seven glances ahead of the circuit() that stands.
        DOC.due("all but the fault is as it was", unlike, 14);
    }

    private static void twenty(MotherBench x) {
        while (x.count(6) < 20) {
            x.misses(6, 5);
        }
    }

    private static void acts() {
        DOC.says(68, "-2: there are none such; -5: there were 20 acts");
        unchanged("appeals(4, 0)", x -> x.appeals(4, 0), -2);
        unchanged("appeals(0, 6)", x -> x.appeals(0, 6), -2);
        unchanged("appeals(0, 1)", RefusedTest::twenty, x -> x.appeals(1, 1), -5);
        DOC.says(69, "-2, -5 likewise");
        unchanged("misses(7, 0)", x -> x.misses(7, 0), -2);
        unchanged("misses(0, 6)", x -> x.misses(0, 6), -2);
        unchanged("misses(0, 0)", RefusedTest::twenty, x -> x.misses(0, 0), -5);
        DOC.says(70, "-5: there is none; -2: there is no CIRCUIT");
        unchanged("undo()", MotherBench::anew, MotherBench::undo, -5);
        DOC.says(74, "-5: there were acts; -2: there are none such");
        unchanged("rate(1, 0)", x -> x.rate(1, 0), -5);
        unchanged("rate(1, 16)", x -> x.rate(1, 16), -2);
        unchanged("rate(1, 16) without acts", MotherBench::anew, x -> x.rate(1, 16), -2);
        unchanged("rate(1, -1) without acts", MotherBench::anew, x -> x.rate(1, -1), -2);
        unchanged("rate(4, 1) without acts", MotherBench::anew, x -> x.rate(4, 1), -2);
    }

    private static void images() {
        DOC.says(76, "-2: no such k");
        unchanged("image(3)", x -> x.image(3), -2);
        unchanged("image(-1)", x -> x.image(-1), -2);
        DOC.says(77, "-2: no such k; -6: it has nothing");
        unchanged("back(3)", x -> x.back(3), -2);
        unchanged("back(-1)", x -> x.back(-1), -2);
        unchanged("back(2)", x -> x.back(2), -6);
    }

    private static void rows() {
        DOC.says(78, "-3, and the SLOT stays: n is below 0");
        unchanged("row(0, 2, -1)", x -> x.row(0, 2, -1), -3);
        unchanged("row(3, 2, -1)", x -> x.row(3, 2, -1), -3);
        unchanged("row(0, 2, 61)", x -> x.row(0, 2, 61), -2);
        unchanged("row(0, 4, 2)", x -> x.row(0, 4, 2), -2);
        unchanged("row(4, 2, 2)", x -> x.row(4, 2, 2), -2);
        DOC.says(79, "-2: there is no such SLOT; -6: it has nothing; -7: there is no such number");
        unchanged("write(4, 0, 1)", x -> x.write(4, 0, 1), -2);
        unchanged("write(3, 0, 1)", x -> x.write(3, 0, 1), -6);
        unchanged("write(0, 4, 1)", x -> x.write(0, 4, 1), -7);
        unchanged("write(1, -1, 1)", x -> x.write(1, -1, 1), -7);
        DOC.says(80, "-7, and nothing happens: some are beyond their rows, or a place or n is below 0");
        unchanged("paste(0, 1, 1, 0, 4)", x -> x.paste(0, 1, 1, 0, 4), -7);
        unchanged("paste(0, 0, 1, 1, 4)", x -> x.paste(0, 0, 1, 1, 4), -7);
        unchanged("paste(0, -1, 1, 0, 2)", x -> x.paste(0, -1, 1, 0, 2), -7);
        unchanged("paste(0, 0, 1, -1, 2)", x -> x.paste(0, 0, 1, -1, 2), -7);
        unchanged("paste(0, 0, 1, 0, -1)", x -> x.paste(0, 0, 1, 0, -1), -7);
        unchanged("paste(0, 0, 2, 0, 2)", x -> x.paste(0, 0, 2, 0, 2), -8);
        unchanged("paste(0, 0, 3, 0, 0)", x -> x.paste(0, 0, 3, 0, 0), -6);
        unchanged("paste(4, 0, 1, 0, 0)", x -> x.paste(4, 0, 1, 0, 0), -2);
    }

    /** Every call that only asks, with numbers that are there and numbers that are not. */
    private static void questions() throws Exception {
        DOC.says("Not promised", "Nothing is promised beyond the answers and state changes described above");
        List<String> doing = List.of("feed", "end", "circuit", "appeals", "misses", "undo", "anew", "rate", "image", "back",
                "row", "write", "paste");
        int asked = 0;
        for (Method m : MotherBench.class.getDeclaredMethods()) {
            if (!java.lang.reflect.Modifier.isPublic(m.getModifiers()) || doing.contains(m.getName())) {
                continue;
            }
            asked++;
            MotherBench x = made();
            int[][] given = {{0, 1, 0, 0}, {1, 1, 1, 1}, {2, 0, 1, 0}, {99, -1, 7, 7}};
            for (int[] numbers : given) {
                Object[] some = new Object[m.getParameterCount()];
                for (int i = 0; i < some.length; i++) {
                    some[i] = numbers[i];
                }
                m.invoke(x, some);
            }
            DOC.due(m.getName() + " only asks", seen(x).equals(seen(made())) ? 1 : 0, 1);
        }
        DOC.due("calls that only ask", asked, 66);
    }
}
