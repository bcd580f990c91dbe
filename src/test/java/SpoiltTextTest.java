import java.util.ArrayList;
import java.util.List;

/**
 * A text with a LINE of each kind, spoilt in every small way: at each place every byte in place of the
 * one there or ahead of it, a byte left out, the text cut; and each TOKEN left out, told twice, or
 * another one in its place or ahead of it. Bench and Model say the same LINES, FAULT and place.
 */
public final class SpoiltTextTest {
    private static final String TEXT = "circuit days 3 law 1 odds 5;\nmother strict 4 ways 1 2 3 4;"
            + "mother strict 40 ways 0 20 0 0 ; kin 0 1;cause weighs 9 signs 15 at 2;";
    private static final String[] TOKENS = {"circuit", "days", "law", "odds", "mother", "strict", "ways", "kin", "cause", "weighs",
        "signs", "at", ";", "0", "1", "2", "3", "4", "10", "11", "13", "14", "15", "16", "20", "21", "30", "31", "40", "41", "007",
        "99999999999999999999", "moth", "mothers", "?", "-1", "Kin"};
    private static int texts;

    public static void main(String[] args) throws Exception {
        hold(TEXT);
        bytes();
        tokens();
        System.out.println(texts + " texts looked at, all as due");
    }

    private static void bytes() throws Exception {
        for (int place = 0; place <= TEXT.length(); place++) {
            String ahead = TEXT.substring(0, place);
            String behind = TEXT.substring(place);
            String rest = behind.isEmpty() ? "" : behind.substring(1);
            hold(ahead);
            hold(ahead + rest);
            for (int b = 0; b < 256; b++) {
                hold(ahead + (char) b + rest);
                hold(ahead + (char) b + behind);
            }
        }
    }

    private static void tokens() throws Exception {
        List<String> parts = new ArrayList<>(List.of(TEXT.replace(";", " ;").split("[ \n]+")));
        for (int at = 0; at < parts.size(); at++) {
            List<String> spoilt = new ArrayList<>(parts);
            spoilt.remove(at);
            hold(String.join(" ", spoilt));
            for (String token : TOKENS) {
                spoilt.add(at, token);
                hold(String.join(" ", spoilt));
                spoilt.add(at + 1, parts.get(at));
                hold(String.join(" ", spoilt));
                spoilt.remove(at + 1);
                spoilt.remove(at);
            }
        }
    }

    /** Told to a bench that has another CIRCUIT already, so that what a FAULT leaves is seen, too. */
    private static void hold(String text) throws Exception {
        Twins twins = new Twins();
        twins.tell("circuit days 2 law 3 odds 7;mother strict 33 ways 5 6 7 8;");
        twins.tell(text);
        for (int what = 0; what <= 8; what++) {
            twins.call("count", what);
        }
        for (int what = 0; what <= 4; what++) {
            twins.call("mother", 0, what);
            twins.call("mother", 1, what);
            twins.call("cause", 0, what);
        }
        twins.call("kin", 0);
        texts++;
        if (twins.unlike) {
            twins.told.forEach(System.out::println);
            System.out.println("of the text '" + text + "'");
            System.exit(1);
        }
    }
}
