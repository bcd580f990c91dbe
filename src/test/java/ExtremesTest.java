import java.lang.reflect.Method;
import java.util.ArrayList;
import java.util.Arrays;
import java.util.List;

/**
 * The fullest circuit, the emptiest ones, the greatest and the least numbers: every call that asks,
 * with numbers from one below the least to one above the greatest, as the Model answers it.
 */
public final class ExtremesTest {
    private static final List<String> DOING = List.of("feed", "end", "circuit", "appeals", "misses", "undo", "anew", "rate",
            "image", "back", "row", "write", "paste");
    private static final int MOST_CALLS = 512;
    private static int asked;

    private interface Maker {
        void make(Twins twins) throws Exception;
    }

    public static void main(String[] args) throws Exception {
        String eightKin = "kin 0 1;kin 2 3;kin 4 5;kin 5 6;kin 1 6;kin 0 3;kin 2 5;kin 1 4;";
        for (int law = 0; law < 4; law++) {
            String head = "circuit days 14 law " + law + " odds 9;";
            askAll("the fullest by LAW " + law, head + mothers() + causes(), ExtremesTest::twentyActs);
        }
        askAll("eight kin", "circuit days 14 law 1 odds 5;" + mothers() + eightKin + causes(), ExtremesTest::twentyActs);
        askAll("twenty appeals", "circuit days 14 law 3 odds 9;" + mothers() + causes(), ExtremesTest::twentyAppeals);
        askAll("one LINE", "circuit days 1 law 0 odds 0;", twins -> { });
        askAll("mothers alone", "circuit days 14 law 3 odds 10;" + mothers(), twins -> { });
        askAll("causes alone", "circuit days 14 law 3 odds 10;" + causes(), twins -> { });
        askAll("two mothers", "circuit days 2 law 2 odds 10;" + Check.plain(0, 40) + causes(), twins -> { });
        askAll("the greatest numbers", "circuit days 14 law 2 odds 10;" + Check.plain(40, 40, 40, 40, 40, 40, 40)
                + "cause weighs 30 signs 0 at 0;".repeat(8), ExtremesTest::twentyAppeals);
        askAll("the least numbers", "circuit days 1 law 3 odds 0;" + "mother strict 0 ways 20 20 20 20;".repeat(7)
                + "cause weighs 0 signs 15 at 0;".repeat(8), twins -> { });
        System.out.println(asked + " answers looked at, all as due");
    }

    private static String mothers() {
        int[][] of = {{10, 1, 2, 3, 4}, {20, 5, 0, 0, 0}, {30, 0, 10, 0, 0}, {5, 0, 0, 0, 20}, {12, 2, 2, 2, 2}, {0, 0, 1, 0, 1}, {40, 20, 9, 20, 9}};
        StringBuilder text = new StringBuilder();
        for (int[] m : of) {
            text.append("mother strict ").append(m[0]).append(" ways ").append(m[1]).append(' ').append(m[2]).append(' ');
            text.append(m[3]).append(' ').append(m[4]).append(';');
        }
        return text.toString();
    }

    private static String causes() {
        int[][] of = {{10, 0, 0}, {4, 3, 0}, {0, 8, 2}, {7, 1, 13}, {30, 15, 5}, {1, 0, 5}, {0, 0, 12}, {12, 6, 1}};
        StringBuilder text = new StringBuilder();
        for (int[] c : of) {
            text.append("cause weighs ").append(c[0]).append(" signs ").append(c[1]).append(" at ").append(c[2]).append(';');
        }
        return text.toString();
    }

    private static void twentyActs(Twins twins) throws Exception {
        for (int act = 0; act < 21; act++) {
            if (act % 3 == 2) {
                twins.call("misses", act % 7, act % 14);
            } else {
                twins.call("appeals", act % 8, 5 * act % 14);
            }
        }
    }

    private static void twentyAppeals(Twins twins) throws Exception {
        for (int act = 0; act < 21; act++) {
            twins.call("appeals", act % 8, 13 - act / 8);
        }
    }

    /** SLOT 0 tells the sentences of all causes, SLOT 1 one of them thirty times, SLOT 2 nothing, SLOT 3 has none. */
    private static void writeRows(Twins twins) throws Exception {
        long causes = twins.model.call("count", new long[] {5});
        twins.call("row", 0, 3, 2 * causes);
        for (int c = 0; c < causes; c++) {
            twins.call("write", 0, 2 * c, c);
            twins.call("write", 0, 2 * c + 1, twins.model.call("sentence", new long[] {c}));
        }
        twins.call("row", 1, 1, 60);
        for (int i = 1; i < 60; i += 2) {
            twins.call("write", 1, i, twins.model.call("sentence", new long[] {0}));
        }
        twins.call("row", 2, 0, 0);
    }

    private static void askAll(String name, String text, Maker acts) throws Exception {
        for (Method m : Twins.FACE.values()) {
            if (DOING.contains(m.getName())) {
                continue;
            }
            Twins twins = null;
            for (long[] given : numbers(m)) {
                if (twins == null || twins.calls == MOST_CALLS) {
                    twins = new Twins();
                    twins.tell(text);
                    if (twins.model.call("count", new long[] {7}) == 0) {
                        throw new IllegalArgumentException(text);
                    }
                    acts.make(twins);
                    writeRows(twins);
                }
                twins.call(m.getName(), given);
                asked++;
                if (twins.unlike) {
                    twins.told.forEach(System.out::println);
                    System.out.println("of " + name);
                    System.exit(1);
                }
            }
        }
    }

    private static List<long[]> numbers(Method m) {
        List<long[]> all = new ArrayList<>();
        all.add(new long[0]);
        for (int i = 0; i < m.getParameterCount(); i++) {
            List<long[]> longer = new ArrayList<>();
            for (long[] start : all) {
                for (long value : values(m.getName(), i)) {
                    long[] more = Arrays.copyOf(start, start.length + 1);
                    more[start.length] = value;
                    longer.add(more);
                }
            }
            all = longer;
        }
        return all;
    }

    private static long[] values(String name, int i) {
        switch (name) {
            case "worth": return new long[] {-1, 0, 7, 56, 63, 112, 126, 127, 128};
            case "chance": return i == 0 ? new long[] {0, 7, 8} : i == 1 ? new long[] {0, 20} : new long[] {0, 1};
            case "drawn": return i == 0 ? new long[] {-1, 0, 1, 2000000000} : new long[] {0, 1};
            case "luck": return i == 0 ? new long[] {0, 2000000000} : i == 1 ? new long[] {0, 1, 20, 21} : new long[] {-1, 0, 7, 8};
            case "gets": return i < 2 ? new long[] {0, 3, 7, 8} : new long[] {0, 1};
            case "share": return i == 0 ? new long[] {-1, 0, 1, 2, 3, 4, 5, 6, 7} : new long[] {0, 1};
            case "fits": case "low": case "high": case "ask": case "leaves":
                return i == 0 ? new long[] {0, 1, 2, 3} : new long[] {0, 3, 6, 7};
            case "mean": return new long[] {0, 1};
            default: return ofNames(i);
        }
    }

    private static long[] ofNames(int i) {
        return i == 0 ? new long[] {-1, 0, 1, 2, 3, 4, 5, 6, 7, 8, 13, 14, 15} : new long[] {-1, 0, 1, 2, 4, 5, 6, 7, 8, 12, 13, 14, 15};
    }
}
