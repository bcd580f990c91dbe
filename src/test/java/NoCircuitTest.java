import java.lang.reflect.Method;
import java.lang.reflect.Modifier;
import java.util.Map;
import java.util.Set;

/** Promise 1: every call that asks of a CIRCUIT on an object that has none, with 0 for each number. */
public final class NoCircuitTest {
    private static final Check CHECK = new Check();
    private static final Set<String> OTHERS = Set.of("feed", "end", "circuit", "fault", "count", "image", "back", "row", "write", "paste");
    private static final Map<String, Integer> UNLIKE = Map.of("rise", -1000, "gets", -1000, "share", -1000000);

    public static void main(String[] args) throws Exception {
        askAll(new MotherBench(), "a new object");
        MotherBench emptied = Check.told("circuit days 9 law 0 odds 5;" + Check.plain(1, 2, 3) + "cause weighs 0 signs 0 at 0;".repeat(2));
        emptied.appeals(0, 1);
        emptied.circuit();
        askAll(emptied, "an emptied one");
        CHECK.close();
    }

    private static void askAll(MotherBench x, String of) throws Exception {
        int asked = 0;
        for (Method m : MotherBench.class.getDeclaredMethods()) {
            if (!Modifier.isPublic(m.getModifiers()) || OTHERS.contains(m.getName())) {
                continue;
            }
            Object[] zeros = new Object[m.getParameterCount()];
            for (int i = 0; i < zeros.length; i++) {
                zeros[i] = 0;
            }
            long got = ((Number) m.invoke(x, zeros)).longValue();
            CHECK.due(m.getName() + " of " + of, got, UNLIKE.getOrDefault(m.getName(), -2));
            asked++;
        }
        CHECK.due("calls that ask of a CIRCUIT", asked, 69);
    }
}
