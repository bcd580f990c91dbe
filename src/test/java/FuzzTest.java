import java.lang.reflect.Method;
import java.util.ArrayList;
import java.util.List;
import java.util.Random;

/** Runs of calls by chance, seeds fixed: MotherBench and Model must answer alike, call by call. */
public final class FuzzTest {
    private static final List<Method> METHODS = new ArrayList<>(Twins.FACE.values());

    private final Random random;
    private final Twins twins = new Twins();

    private FuzzTest(long seed) {
        random = new Random(seed);
    }

    public static void main(String[] args) throws Exception {
        int runs = args.length > 0 ? Integer.parseInt(args[0]) : 500;
        long first = args.length > 1 ? Long.parseLong(args[1]) : 1;
        if (METHODS.size() != 79) {
            System.out.println("the face has " + METHODS.size() + " methods, due are 79");
            System.exit(1);
        }
        for (long seed = first; seed < first + runs; seed++) {
            FuzzTest test = new FuzzTest(seed);
            test.run();
            if (test.twins.unlike) {
                test.twins.told.forEach(System.out::println);
                System.out.println("by seed " + seed);
                System.exit(1);
            }
        }
        System.out.println(runs + " runs by chance are as due");
    }

    private void run() throws Exception {
        if (random.nextInt(10) > 0) {
            twins.tell(circuitText());
        }
        for (int i = 0; i < 60 && twins.calls < 470 && !twins.unlike; i++) {
            int way = random.nextInt(60);
            if (way == 0) {
                twins.tell(spoilt(circuitText()));
            } else if (way == 1) {
                twins.tell(circuitText());
            } else if (way < 6) {
                writeSeen();
            } else {
                Method m = METHODS.get(random.nextInt(METHODS.size()));
                twins.call(m.getName(), arguments(m));
            }
        }
    }

    // ---- texts ----

    private String circuitText() {
        StringBuilder t = new StringBuilder();
        int days = 1 + random.nextInt(random.nextBoolean() ? 5 : 14);
        t.append("circuit days ").append(days).append(" law ").append(random.nextInt(4));
        t.append(" odds ").append(random.nextInt(11)).append(";");
        int mothers = random.nextInt(3) > 0 ? 5 + random.nextInt(3) : random.nextInt(8);
        int causes = random.nextInt(3) > 0 ? 2 + random.nextInt(4) : random.nextInt(9);
        int kin = mothers < 2 ? 0 : random.nextInt(random.nextBoolean() ? 3 : 9);
        int strictBound = random.nextInt(4) == 0 ? 5 : 41;
        for (int m = 0; m < mothers; m++) {
            t.append("mother strict ").append(random.nextInt(strictBound)).append(" ways");
            for (int w = 0; w < 4; w++) {
                t.append(' ').append(random.nextInt(random.nextBoolean() ? 4 : 21));
            }
            t.append(';');
        }
        boolean[][] are = new boolean[8][8];
        for (int k = 0; k < kin; k++) {
            int a = random.nextInt(mothers);
            int b = random.nextInt(mothers);
            if (a != b && !are[a][b]) {
                are[a][b] = true;
                are[b][a] = true;
                t.append("kin ").append(a).append(' ').append(b).append(random.nextBoolean() ? ";\n" : " ; ");
            }
        }
        for (int c = 0; c < causes; c++) {
            int at = random.nextInt(6) == 0 ? random.nextInt(14) : random.nextInt(days);
            t.append("cause weighs ").append(random.nextInt(31)).append("signs");
            t.append(random.nextInt(3) == 0 ? 0 : random.nextInt(16)).append(" at ").append(at).append(';');
        }
        return t.toString();
    }

    private String spoilt(String text) {
        StringBuilder t = new StringBuilder(text);
        for (int i = random.nextInt(2); i >= 0 && t.length() > 0; i--) {
            int at = random.nextInt(t.length());
            switch (random.nextInt(5)) {
                case 0 -> t.deleteCharAt(at);
                case 1 -> t.setLength(at);
                case 2 -> t.setCharAt(at, (char) random.nextInt(256));
                case 3 -> t.insert(at, random.nextInt(50));
                default -> {
                    String[] more = {"mother", "kin", "cause", "circuit", ";", "0", "99999999999", "\t", "kin 0 1;",
                        "mother strict 1 ways 1 1 1 1;", "cause weighs 1 signs 1 at 1;"};
                    int place = t.indexOf(";", at) + 1;
                    t.insert(random.nextBoolean() ? at : place, more[random.nextInt(more.length)]);
                }
            }
        }
        return t.toString();
    }

    /** A row of what is seen, true for the most part, then what is asked of it. */
    private void writeSeen() throws Exception {
        int slot = random.nextInt(4);
        int pairs = random.nextInt(4);
        int width = random.nextInt(4);
        twins.call("row", slot, width, 2 * pairs);
        for (int i = 0; i < pairs; i++) {
            int cause = random.nextInt(random.nextInt(5) == 0 ? 9 : 3);
            long seen = twins.model.call("sentence", new long[] {cause});
            seen = random.nextInt(4) == 0 ? random.nextInt(60) - 2 : Math.max(-1, seen);
            twins.call("write", slot, 2 * i, cause);
            twins.call("write", slot, 2 * i + 1, seen);
        }
        int mother = random.nextInt(7);
        for (String name : new String[] {"fits", "low", "high", "ask", "leaves"}) {
            twins.call(name, slot, mother);
        }
        twins.call("laws", slot);
    }

    // ---- calls ----

    private long[] arguments(Method m) {
        long[] a = new long[m.getParameterCount()];
        for (int i = 0; i < a.length; i++) {
            a[i] = switch (m.getName()) {
                case "worth" -> random.nextInt(132) - 2;
                case "chance" -> i == 1 && random.nextInt(3) > 0 ? random.nextInt(50) : small();
                case "drawn", "luck" -> i == 0 ? seed() : i == 1 ? random.nextInt(random.nextBoolean() ? 3 : 23) : small();
                case "row" -> i == 2 ? random.nextInt(66) - 3 : random.nextInt(6) - 1;
                case "write" -> i == 2 ? random.nextLong() : small();
                case "paste" -> random.nextInt(5);
                case "rate" -> i == 1 ? random.nextInt(18) - 1 : small();
                case "end" -> random.nextInt(720) - 5;
                case "rests", "gets" -> i > 1 ? random.nextInt(2) : small();
                case "feed" -> random.nextInt();
                default -> small();
            };
            if (random.nextInt(200) == 0) {
                a[i] = random.nextBoolean() ? Integer.MAX_VALUE : Integer.MIN_VALUE;
            }
        }
        return a;
    }

    private long small() {
        return random.nextInt(12) == 0 ? random.nextInt(20) - 3 : random.nextInt(5);
    }

    private long seed() {
        return random.nextInt(5) == 0 ? 2000000000L - 3 + random.nextInt(6) : random.nextInt(2000000000);
    }
}
