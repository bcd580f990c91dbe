import java.nio.charset.StandardCharsets;

/** What the tests share: telling a text to a bench, and answers held against those due. */
final class Check {
    private int asked;
    private int wrong;

    void due(String call, long got, long want) {
        asked++;
        if (got != want) {
            wrong++;
            System.out.println(call + " answered " + got + ", due is " + want);
        }
    }

    /** To be called last: ends the program with 1 if an answer was wrong. */
    void close() {
        System.out.println(asked + " answers looked at, " + wrong + " of them wrong");
        if (wrong != 0 || asked == 0) {
            System.exit(1);
        }
    }

    /** Puts a text on the tape behind what is there; the answer of the last call. */
    static int put(MotherBench x, String text) {
        byte[] bytes = text.getBytes(StandardCharsets.ISO_8859_1);
        int answer = x.count(8);
        int size = answer;
        for (int i = 0; i < bytes.length; i += 20) {
            answer = x.feed(four(bytes, i), four(bytes, i + 4), four(bytes, i + 8), four(bytes, i + 12), four(bytes, i + 16));
        }
        return answer < 0 ? answer : x.end(size + bytes.length);
    }

    private static int four(byte[] bytes, int at) {
        int number = 0;
        for (int i = at; i < at + 4; i++) {
            number = number << 8 | (i < bytes.length ? bytes[i] & 255 : 0);
        }
        return number;
    }

    /** A new bench whose circuit is the text. */
    static MotherBench told(String text) {
        MotherBench x = new MotherBench();
        put(x, text);
        if (x.circuit() < 1) {
            throw new IllegalArgumentException("fault " + x.fault(0) + " at " + x.fault(1) + " of " + text);
        }
        return x;
    }

    /** A slot gets a row of a width with those numbers. */
    static void row(MotherBench x, int slot, int width, long... numbers) {
        x.row(slot, width, numbers.length);
        for (int i = 0; i < numbers.length; i++) {
            x.write(slot, i, numbers[i]);
        }
    }

    /** Lines of mothers of those stricts, with ways of 0. */
    static String plain(int... stricts) {
        StringBuilder text = new StringBuilder();
        for (int strict : stricts) {
            text.append("mother strict ").append(strict).append(" ways 0 0 0 0;");
        }
        return text.toString();
    }
}
