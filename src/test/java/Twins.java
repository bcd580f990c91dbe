import java.lang.reflect.Method;
import java.lang.reflect.Modifier;
import java.nio.ByteBuffer;
import java.nio.charset.StandardCharsets;
import java.util.ArrayList;
import java.util.Arrays;
import java.util.List;
import java.util.Map;
import java.util.TreeMap;

/** A bench and a Model, each call put to both: whether they answered alike, and how. */
final class Twins {
    /** The document's face, by names. */
    static final Map<String, Method> FACE = face();

    final Model model = new Model();
    final List<String> told = new ArrayList<>();
    boolean unlike;
    int calls;
    private final MotherBench bench = new MotherBench();

    private static Map<String, Method> face() {
        Map<String, Method> face = new TreeMap<>();
        for (Method m : MotherBench.class.getDeclaredMethods()) {
            if (Modifier.isPublic(m.getModifiers())) {
                face.put(m.getName(), m);
            }
        }
        return face;
    }

    void call(String name, long... given) throws Exception {
        Method m = FACE.get(name);
        Object[] numbers = new Object[given.length];
        for (int i = 0; i < given.length; i++) {
            numbers[i] = m.getParameterTypes()[i] == long.class ? (Object) given[i] : (Object) (int) given[i];
        }
        long got = ((Number) m.invoke(bench, numbers)).longValue();
        long want = model.call(name, given);
        calls++;
        told.add(name + Arrays.toString(given) + " answered " + got + (got == want ? "" : ", due is " + want));
        unlike = unlike || got != want;
    }

    /** A text in place of what is on the tape, and circuit(). */
    void tell(String text) throws Exception {
        byte[] bytes = text.getBytes(StandardCharsets.ISO_8859_1);
        call("end", 0);
        for (int i = 0; i < bytes.length; i += 20) {
            ByteBuffer piece = ByteBuffer.wrap(Arrays.copyOfRange(bytes, i, i + 20));
            call("feed", piece.getInt(0), piece.getInt(4), piece.getInt(8), piece.getInt(12), piece.getInt(16));
        }
        call("end", bytes.length);
        call("circuit");
        call("fault", 0);
        call("fault", 1);
    }
}
