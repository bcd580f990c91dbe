/** Term I and promises 1 to 8: the edges that their sentences name, each by its own words. */
public final class EdgesOfTextTest {
    private static final Sentences DOC = new Sentences();
    private static final String HEAD = "circuit days 4 law 1 odds 5;";
    private static final String MOTHER = "mother strict 1 ways 1 1 1 1;";
    private static final String CAUSE = "cause weighs 1 signs 1 at 1;";
    private static final int AT = HEAD.length();

    public static void main(String[] args) {
        firstLine();
        boundsOfNumbers();
        kinOfTwo();
        kinToldAhead();
        asTheyStand();
        daysOfTheCircuit();
        blanks();
        longestTokens();
        bytesThatAreNoToken();
        wordsByEveryLetter();
        firstByItsPlace();
        ends();
        ofOnePlaceTheLeast();
        tooMany();
        newObject();
        fullTape();
        bytesHighestFirst();
        cutTape();
        circuits();
        faults();
        toldThings();
        DOC.close("I", 1, 2, 3, 4, 5, 6, 7, 8);
    }

    private static void firstLine() {
        DOC.says("I", "circuit is the first LINE and no other");
        DOC.faulty(HEAD, 0, -1);
        DOC.faulty(HEAD + HEAD, 1, AT);
        DOC.faulty(HEAD + MOTHER + HEAD, 1, AT + MOTHER.length());
        DOC.faulty(MOTHER + HEAD, 1, 0);
        DOC.faulty(CAUSE, 1, 0);
        DOC.faulty("kin 0 1;", 1, 0);
        DOC.faulty(HEAD + MOTHER, 0, -1);
    }

    /** A number between two pieces of text: what its bounds let stand, and what wraps round to it. */
    private static void bounds(String before, int least, int greatest, String after) {
        int place = before.length();
        DOC.faulty(before + least + after, 0, -1);
        DOC.faulty(before + greatest + after, 0, -1);
        DOC.faulty(before + "000000000000" + greatest + after, 0, -1);
        DOC.faulty(before + (greatest + 1) + after, 2, place);
        if (least > 0) {
            DOC.faulty(before + (least - 1) + after, 2, place);
        }
        long[] wraps = {256, 1000, 65536, 4294967296L};
        for (long wrap : wraps) {
            DOC.faulty(before + (wrap + least) + after, 2, place);
        }
        DOC.faulty(before + "1844674407370955161" + (6 + least) + after, 2, place);
        DOC.faulty(before + "-" + least + after, 1, place);
        DOC.faulty(before + ";", 1, place);
    }

    private static void boundsOfNumbers() {
        DOC.says("I", "days 1 .. 14, law 0 .. 3, odds 0 .. 10");
        bounds("circuit days ", 1, 14, " law 1 odds 5;");
        bounds("circuit days 4 law ", 0, 3, " odds 5;");
        bounds("circuit days 4 law 1 odds ", 0, 10, ";");
        DOC.says("I", "mother: strict 0 .. 40, ways 0 .. 20");
        bounds(HEAD + "mother strict ", 0, 40, " ways 1 1 1 1;");
        bounds(HEAD + "mother strict 1 ways ", 0, 20, " 1 1 1;");
        bounds(HEAD + "mother strict 1 ways 1 1 1 ", 0, 20, ";");
        DOC.faulty(HEAD + "mother strict 40 ways 20 21 1 1;", 2, AT + 25);
        DOC.faulty(HEAD + "mother strict 40 ways 20 20 21 1;", 2, AT + 28);
        DOC.faulty(HEAD + "mother strict 40 ways 20 20 20 20;", 0, -1);
        DOC.says("I", "cause: weighs 0 .. 30, signs 0 .. 15, at 0 .. 13");
        bounds(HEAD + "cause weighs ", 0, 30, " signs 1 at 1;");
        bounds(HEAD + "cause weighs 1 signs ", 0, 15, " at 1;");
        bounds(HEAD + "cause weighs 1 signs 1 at ", 0, 13, ";");
    }

    private static void kinOfTwo() {
        String three = HEAD + MOTHER.repeat(3);
        int at = three.length();
        DOC.says("I", "kin: two unlike MOTHERS told ahead");
        DOC.faulty(three + "kin 0 2;", 0, -1);
        DOC.faulty(three + "kin 2 0;", 0, -1);
        DOC.faulty(three + "kin 3 0;", 2, at + 4);
        DOC.faulty(three + "kin 0 3;", 2, at + 6);
        DOC.faulty(three + "kin 4294967296 1;", 2, at + 4);
        DOC.faulty(three + "kin 0 4294967297;", 2, at + 6);
        for (int m = 0; m < 3; m++) {
            DOC.faulty(three + "kin " + m + " " + m + ";", 2, at + 6);
        }
        DOC.faulty(HEAD + "kin 0 1;" + MOTHER.repeat(2), 2, AT + 4);
        DOC.faulty(HEAD + MOTHER + "kin 0 1;" + MOTHER, 2, AT + MOTHER.length() + 6);
        DOC.faulty(HEAD + MOTHER + MOTHER + "kin 0 1;" + MOTHER + "kin 2 0;", 0, -1);
        DOC.faulty(three + "kin 0;", 1, at + 5);
        DOC.faulty(three + "kin 0 1 2;", 1, at + 8);
    }

    private static void kinToldAhead() {
        String three = HEAD + MOTHER.repeat(3) + "kin 0 1;";
        int at = three.length();
        DOC.says("I", "no two of which are KIN told ahead");
        DOC.faulty(three + "kin 0 1;", 2, at + 6);
        DOC.faulty(three + "kin 1 0;", 2, at + 6);
        DOC.faulty(three + "kin 0 2;kin 2 1;", 0, -1);
        DOC.faulty(three + "kin 0 2;kin 1 2;kin 2 0;", 2, at + 22);
        MotherBench x = Check.told(three + "kin 2 1;");
        DOC.due("kin(1) of two LINES", x.kin(1), 5);
        DOC.due("kin(0): who is kin to kin is none", x.kin(0), 2);
    }

    private static void asTheyStand() {
        DOC.says("I", "MOTHERS 0 .. 6, CAUSES 0 .. 7 are numbered as they stand; kin LINES are 8 at most");
        StringBuilder text = new StringBuilder(HEAD);
        for (int i = 0; i < 7; i++) {
            text.append("cause weighs ").append(20 + i).append(" signs 0 at 0;mother strict ").append(i).append(" ways 0 0 0 0;");
        }
        text.append("cause weighs 27 signs 0 at 0;");
        MotherBench x = Check.told(text.toString());
        for (int i = 0; i < 7; i++) {
            DOC.due("mother(" + i + ", 0)", x.mother(i, 0), i);
            DOC.due("cause(" + i + ", 0)", x.cause(i, 0), 20 + i);
        }
        DOC.due("cause(7, 0)", x.cause(7, 0), 27);
        DOC.due("mother(7, 0)", x.mother(7, 0), -2);
        DOC.due("cause(8, 0)", x.cause(8, 0), -2);
        String seven = HEAD + MOTHER.repeat(7);
        String eight = "kin 0 1;kin 0 2;kin 0 3;kin 0 4;kin 0 5;kin 0 6;kin 1 2;kin 5 6;";
        MotherBench full = Check.told(seven + eight);
        DOC.due("count(4)", full.count(4), 8);
        DOC.due("kin(6)", full.kin(6), 33);
        DOC.faulty(seven + eight + "kin 1 3;", 3, seven.length() + eight.length());
    }

    private static void daysOfTheCircuit() {
        DOC.says("I", "DAYS 0 .. days");
        for (int days = 1; days <= 14; days += 13) {
            MotherBench x = Check.told("circuit days " + days + " law 0 odds 0;" + MOTHER);
            DOC.due("strict(0, 0)", x.strict(0, 0), 1);
            DOC.due("strict(0, " + days + ")", x.strict(0, days), 1);
            DOC.due("strict(0, " + (days + 1) + ")", x.strict(0, days + 1), -2);
            DOC.due("strict(0, -1)", x.strict(0, -1), -2);
            DOC.due("due(" + days + ")", x.due(days), 0);
            DOC.due("due(" + (days + 1) + ")", x.due(days + 1), -2);
        }
    }

    /** Every byte ahead of a LINE: but for two it is a fault there, alone or with the word. */
    private static void blanks() {
        DOC.says("I", "TOKENS, blanks (32, 10) aside");
        for (int b = 0; b < 256; b++) {
            boolean blank = b == 32 || b == 10;
            DOC.faulty(HEAD + (char) b + MOTHER, blank ? 0 : 1, blank ? -1 : AT);
        }
        DOC.faulty("\n \n" + HEAD + " \n ", 0, -1);
        DOC.faulty("circuit\n\ndays\n4 law  1 odds 5 \n;", 0, -1);
    }

    /** Every byte behind a number, ahead of the sign. */
    private static void longestTokens() {
        DOC.says("I", "the longest: words (a .. z), numbers (digits), the sign ;");
        for (int b = 0; b < 256; b++) {
            String text = "circuit days 4 law 1 odds 5" + (char) b + ";";
            if (b == 32 || b == 10) {
                DOC.faulty(text, 0, -1);
            } else if (b >= '0' && b <= '9') {
                DOC.faulty(text, 2, 26);
            } else {
                DOC.faulty(text, 1, b == ';' ? 28 : 27);
            }
        }
        DOC.faulty("circuitdays 4 law 1 odds 5;", 1, 0);
        DOC.faulty("circuit days 1 4 law 1 odds 5;", 1, 15);
        DOC.faulty("circuit days 14 law 1 odds 5;", 0, -1);
        DOC.faulty("circuit days4law1odds5;mother strict1ways1 1 1 1;", 0, -1);
        DOC.faulty("circuit days4law1odds5;mother strict1ways1 111;", 2, 43);
        DOC.faulty(HEAD + "mo ther strict 1 ways 1 1 1 1;", 1, AT);
        DOC.faulty(HEAD + "motherstrict 1 ways 1 1 1 1;", 1, AT);
        DOC.faulty(HEAD + "mothe strict 1 ways 1 1 1 1;", 1, AT);
        DOC.faulty(HEAD + "causes weighs 1 signs 1 at 1;", 1, AT);
        DOC.faulty(HEAD + "kinz 0 1;", 1, AT);
        DOC.faulty(HEAD + "kina 0 1;", 1, AT);
        DOC.faulty(HEAD + "zkin 0 1;", 1, AT);
    }

    private static void bytesThatAreNoToken() {
        DOC.says("I", "1 a TOKEN that is none, or can't stand there (circuit behind the first LINE, another word ahead of it)");
        DOC.faulty("#", 1, 0);
        DOC.faulty("judge days 4 law 1 odds 5;", 1, 0);
        DOC.faulty(HEAD + "circuit", 1, AT);
        DOC.faulty(HEAD + ";", 1, AT);
        DOC.faulty(HEAD + "7", 1, AT);
        DOC.faulty(HEAD + "judge", 1, AT);
        DOC.faulty(HEAD + "strict 1", 1, AT);
        DOC.faulty(HEAD + "mother ways 1", 1, AT + 7);
        DOC.faulty(HEAD + "mother strict ways", 1, AT + 14);
        DOC.faulty(HEAD + "mother strict 1 1 1 1 1;", 1, AT + 16);
        DOC.faulty(HEAD + "mother strict 1 ways 1 1 1 1 1;", 1, AT + 29);
        DOC.faulty(HEAD + "cause signs 1", 1, AT + 6);
        DOC.faulty(HEAD + "cause weighs 1 at 1", 1, AT + 15);
        DOC.faulty(HEAD + "cause weighs 1 signs 1 1;", 1, AT + 23);
        DOC.faulty("circuit days 4 odds 5;", 1, 15);
        DOC.faulty("circuit days 4 law 1;", 1, 20);
    }

    /** A text of words that are due, one letter of which is another: at fault is the word, from its first byte on. */
    private static void wordsByEveryLetter() {
        DOC.says("I", "LINE: circuit days N law N odds N | mother strict N ways N N N N | kin M M | cause weighs N signs N at N");
        String text = HEAD + MOTHER + MOTHER + "kin 0 1;" + CAUSE;
        DOC.faulty(text, 0, -1);
        for (int i = 0; i < text.length(); i++) {
            int place = i;
            while (place > 0 && isLetter(text.charAt(place - 1))) {
                place--;
            }
            if (isLetter(text.charAt(i))) {
                DOC.faulty(text.substring(0, i) + "z" + text.substring(i + 1), 1, place);
                DOC.faulty(text.substring(0, i) + "a".repeat(text.charAt(i) == 'a' ? 2 : 1) + text.substring(i + 1), 1, place);
            }
        }
    }

    private static void firstByItsPlace() {
        DOC.says("I", "FAULTS, the first by its place");
        DOC.faulty("circuit days 15 law 4 odds 11 #", 2, 13);
        DOC.faulty("circuit days 14 law 4 odds 11 #", 2, 20);
        DOC.faulty("circuit days 14 law 3 odds 11 #", 2, 27);
        DOC.faulty("circuit days 14 law 3 odds 10 #", 1, 30);
        DOC.faulty("circuit days 14 # law 4", 1, 16);
        DOC.faulty(HEAD + MOTHER.repeat(7) + "mother # strict 99", 3, AT + 7 * MOTHER.length());
        DOC.faulty(HEAD + MOTHER.repeat(6) + "mother # strict 99", 1, AT + 6 * MOTHER.length() + 7);
        DOC.faulty(HEAD + MOTHER.repeat(2) + "kin 9 9 #", 2, AT + 2 * MOTHER.length() + 4);
        DOC.faulty(HEAD + MOTHER.repeat(2) + "kin 1 1 #", 2, AT + 2 * MOTHER.length() + 6);
        DOC.faulty(HEAD + MOTHER.repeat(2) + "kin 1 # 1", 1, AT + 2 * MOTHER.length() + 6);
    }

    /** Of a text cut anywhere: a word cut in two is at fault itself, all else that is missing is at the end. */
    private static void ends() {
        DOC.says("I", "(a TOKEN's first byte; the end's)");
        String text = HEAD + " " + MOTHER + MOTHER + "kin 0 1 ;\n" + CAUSE + " ";
        for (int n = 0; n <= text.length(); n++) {
            String cut = text.substring(0, n);
            boolean stands = cut.isBlank() || cut.strip().endsWith(";");
            boolean inWord = n > 0 && n < text.length() && isLetter(text.charAt(n - 1)) && isLetter(text.charAt(n));
            int place = n;
            while (inWord && place > 0 && isLetter(text.charAt(place - 1))) {
                place--;
            }
            DOC.faulty(cut, stands ? 0 : 1, stands ? -1 : place);
            DOC.faulty(cut + " \n ", stands ? 0 : 1, stands ? -1 : inWord ? place : n + 3);
        }
    }

    private static boolean isLetter(char c) {
        return c >= 'a' && c <= 'z';
    }

    private static void ofOnePlaceTheLeast() {
        DOC.says("I", "of one place the least");
        DOC.faulty("circuit 99 days 4", 1, 8);
        DOC.faulty(HEAD + "mother 99", 1, AT + 7);
        DOC.faulty(HEAD + MOTHER.repeat(7) + "kin mother", 1, AT + 7 * MOTHER.length() + 4);
        DOC.faulty(HEAD + CAUSE.repeat(8) + "kin cause", 1, AT + 8 * CAUSE.length() + 4);
        DOC.says("I", "2 a number out of its bounds, not as said (of kin: the second)");
        DOC.faulty(HEAD + MOTHER.repeat(2) + "kin 0 0;", 2, AT + 2 * MOTHER.length() + 6);
        DOC.faulty(HEAD + MOTHER.repeat(2) + "kin 0 1;kin 1 0;", 2, AT + 2 * MOTHER.length() + 14);
    }

    private static void tooMany() {
        DOC.says("I", "3 an 8th mother, 9th kin, 9th cause, at its word");
        String seven = HEAD + MOTHER.repeat(7);
        DOC.faulty(seven, 0, -1);
        DOC.faulty(seven + "\n" + MOTHER, 3, seven.length() + 1);
        DOC.faulty(seven + CAUSE + MOTHER, 3, seven.length() + CAUSE.length());
        DOC.faulty(seven + "mother", 3, seven.length());
        String eight = HEAD + CAUSE.repeat(8);
        DOC.faulty(eight, 0, -1);
        DOC.faulty(eight + MOTHER + CAUSE, 3, eight.length() + MOTHER.length());
        DOC.faulty(eight + "cause", 3, eight.length());
        String kin = seven + "kin 0 1;kin 0 2;kin 0 3;kin 0 4;kin 0 5;kin 0 6;kin 1 2;kin 1 3;";
        DOC.faulty(kin + CAUSE, 0, -1);
        DOC.faulty(kin + "kin", 3, kin.length());
        DOC.faulty(kin + "kin 0 0;", 3, kin.length());
    }

    private static void newObject() {
        DOC.says(1, "No CIRCUIT.");
        MotherBench x = new MotherBench();
        for (int what = 0; what <= 9; what++) {
            DOC.due("count(" + what + ")", x.count(what), 0);
        }
        DOC.due("all()", x.all(), -2);
        DOC.due("due(0)", x.due(0), -2);
        DOC.due("docket(0)", x.docket(0), -2);
        DOC.due("worth(0)", x.worth(0), -2);
        DOC.due("undo()", x.undo(), -2);
        DOC.due("circuit()", x.circuit(), 0);
        MotherBench other = Check.told(HEAD + MOTHER);
        DOC.due("one object has nothing of another", new MotherBench().count(3), 0);
        DOC.due("and leaves it", other.count(3), 1);
    }

    private static void fullTape() {
        DOC.says(2, "NONE, and none come, if it would have more than 700");
        for (int size = 679; size <= 700; size++) {
            MotherBench x = new MotherBench();
            Check.put(x, " ".repeat(size - AT) + HEAD);
            int blanks = 0x20202020;
            int answer = x.feed(blanks, blanks, blanks, blanks, blanks);
            DOC.due("feed behind " + size, answer, size <= 680 ? size + 20 : -1);
            DOC.due("count(8) of " + size, x.count(8), size <= 680 ? size + 20 : size);
            DOC.due("circuit() of " + size, x.circuit(), 1);
        }
        MotherBench x = new MotherBench();
        Check.put(x, HEAD + " ".repeat(700 - AT));
        DOC.due("feed to a full tape", x.feed(-1, -1, -1, -1, -1), -1);
        DOC.due("feed again", x.feed(0, 0, 0, 0, 0), -1);
        DOC.due("the tape", x.count(8), 700);
        DOC.due("circuit() of a full tape", x.circuit(), 1);
        DOC.due("there is room again", x.feed(-1, -1, -1, -1, -1), 20);
        DOC.faulty(" ".repeat(699) + "x", 1, 699);
        DOC.faulty(" ".repeat(673) + "circuit days 4 law 1 odds 5", 1, 700);
    }

    /** Every byte at every place of the twenty, the first of which is at fault. */
    private static void bytesHighestFirst() {
        DOC.says(2, "Twenty bytes come behind the TAPE, four of each number, the highest first: how many it has");
        int blanks = 0x20202020;
        for (int place = 0; place < 20; place++) {
            int[] n = {blanks, blanks, blanks, blanks, blanks};
            int shift = 24 - 8 * (place % 4);
            n[place / 4] = blanks & ~(255 << shift) | 200 << shift;
            MotherBench x = new MotherBench();
            DOC.due("feed", x.feed(blanks, blanks, blanks, blanks, blanks), 20);
            DOC.due("feed", x.feed(n[0], n[1], n[2], n[3], n[4]), 40);
            DOC.due("circuit()", x.circuit(), -4);
            DOC.due("fault(1)", x.fault(1), 20 + place);
        }
        MotherBench x = new MotherBench();
        x.feed(0x63697263, 0x75697420, 0x64617973, 0x2034206c, 0x61772031);
        x.feed(0x206f6464, 0x7320353b, Integer.MIN_VALUE, Integer.MAX_VALUE, -1);
        DOC.due("end(28)", x.end(28), 28);
        DOC.due("circuit()", x.circuit(), 1);
        DOC.due("days", x.count(0), 4);
    }

    private static void cutTape() {
        DOC.says(3, "NONE, and nothing happens, if it has not so many, or n is below 0");
        int[] none = {29, 30, 700, Integer.MAX_VALUE, -1, -28, Integer.MIN_VALUE};
        for (int n : none) {
            MotherBench x = new MotherBench();
            Check.put(x, HEAD);
            DOC.due("end(" + n + ")", x.end(n), -1);
            DOC.due("count(8)", x.count(8), AT);
            DOC.due("circuit()", x.circuit(), 1);
        }
        DOC.due("end(1) of an empty tape", new MotherBench().end(1), -1);
        DOC.due("end(0) of an empty tape", new MotherBench().end(0), 0);
        DOC.says(3, "The TAPE has its first n bytes alone: n");
        MotherBench x = new MotherBench();
        Check.put(x, HEAD + "xyz");
        DOC.due("end of all", x.end(AT + 3), AT + 3);
        DOC.due("end of the first", x.end(AT), AT);
        DOC.due("no way back", x.end(AT + 1), -1);
        DOC.due("count(8)", x.count(8), AT);
        DOC.due("circuit()", x.circuit(), 1);
        Check.put(x, "xyz");
        DOC.due("end(0)", x.end(0), 0);
        Check.put(x, HEAD);
        DOC.due("circuit() behind end(0)", x.circuit(), 1);
    }

    private static void circuits() {
        DOC.says(4, "how many LINES (0: there is none then)");
        for (String text : new String[] {"", " ", "\n", " \n".repeat(350)}) {
            MotherBench x = Check.told(HEAD + MOTHER + MOTHER + "kin 0 1;" + CAUSE);
            x.misses(0, 0);
            Check.put(x, text);
            DOC.due("circuit() of blanks", x.circuit(), 0);
            for (int what = 0; what <= 8; what++) {
                DOC.due("count(" + what + ")", x.count(what), 0);
            }
            DOC.due("all()", x.all(), -2);
            DOC.due("strict(0, 0)", x.strict(0, 0), -2);
            DOC.due("fault(0)", x.fault(0), 0);
        }
        DOC.due("circuit() of the most LINES", linesOfTheGreatest(), 24);
        DOC.says(4, "The TAPE (empty then) is the CIRCUIT (in place of another), nothing done");
        MotherBench x = Check.told(HEAD + Check.plain(1, 2, 3) + "kin 0 1;" + CAUSE);
        x.misses(0, 0);
        Check.put(x, HEAD + Check.plain(7, 8));
        DOC.due("circuit()", x.circuit(), 3);
        DOC.due("the tape", x.count(8), 0);
        DOC.due("acts", x.count(6), 0);
        DOC.due("undo()", x.undo(), -5);
        DOC.due("mother(0, 0)", x.mother(0, 0), 7);
        DOC.due("mother(2, 0)", x.mother(2, 0), -2);
        DOC.due("kin(0)", x.kin(0), 0);
        DOC.due("cause(0, 0)", x.cause(0, 0), -2);
        DOC.says(4, "-4: a FAULT (all stays)");
        Check.put(x, HEAD + "kin 0 0;");
        x.misses(1, 2);
        DOC.due("circuit()", x.circuit(), -4);
        DOC.due("circuit() again", x.circuit(), -4);
        DOC.due("the tape", x.count(8), AT + 8);
        DOC.due("mothers", x.count(3), 2);
        DOC.due("acts", x.count(6), 1);
        DOC.due("LINES", x.count(7), 3);
    }

    private static int linesOfTheGreatest() {
        MotherBench x = new MotherBench();
        Check.put(x, HEAD + MOTHER.repeat(7) + "kin 0 1;kin 0 2;kin 0 3;kin 0 4;kin 0 5;kin 0 6;kin 1 2;kin 1 3;" + CAUSE.repeat(8));
        return x.circuit();
    }

    private static void faults() {
        DOC.says(5, "NONE for another what, and ahead of any (what 1)");
        MotherBench x = new MotherBench();
        DOC.due("fault(0) ahead of any", x.fault(0), 0);
        DOC.due("fault(1) ahead of any", x.fault(1), -1);
        Check.put(x, "x");
        DOC.due("circuit()", x.circuit(), -4);
        DOC.due("fault(0)", x.fault(0), 1);
        DOC.due("fault(1)", x.fault(1), 0);
        for (int what : new int[] {-1, 2, 3, Integer.MIN_VALUE, Integer.MAX_VALUE}) {
            DOC.due("fault(" + what + ")", x.fault(what), -1);
        }
        DOC.says(5, "Of the latest circuit(), what 0: its FAULT, 0 without, 1: its place (NONE without)");
        x.end(0);
        DOC.due("fault(0) is of circuit(), not of the tape", x.fault(0), 1);
        DOC.due("circuit() of nothing", x.circuit(), 0);
        DOC.due("fault(0) without", x.fault(0), 0);
        DOC.due("fault(1) without", x.fault(1), -1);
        Check.put(x, "circuit days 0");
        x.circuit();
        DOC.due("fault(0) again", x.fault(0), 2);
        DOC.due("fault(1) again", x.fault(1), 13);
        x.end(0);
        Check.put(x, HEAD);
        x.circuit();
        DOC.due("fault(0) of one that stands", x.fault(0), 0);
        DOC.due("fault(1) of one that stands", x.fault(1), -1);
    }

    private static void toldThings() {
        MotherBench x = Check.told("circuit days 1 law 0 odds 0;mother strict 40 ways 20 0 1 19;mother strict 0 ways 1 2 3 4;"
                + Check.plain(1, 2, 3, 4, 5) + "kin 6 0;kin 0 1;cause weighs 30 signs 15 at 13;cause weighs 0 signs 0 at 0;");
        DOC.says(6, "Of a MOTHER, what 0: strict as told, 1 .. 4: her ways. -2: there are none such");
        int[][] mothers = {{40, 20, 0, 1, 19}, {0, 1, 2, 3, 4}};
        for (int m = 0; m < 2; m++) {
            for (int what = 0; what < 5; what++) {
                DOC.due("mother(" + m + ", " + what + ")", x.mother(m, what), mothers[m][what]);
            }
            DOC.due("mother(" + m + ", 5)", x.mother(m, 5), -2);
            DOC.due("mother(" + m + ", -1)", x.mother(m, -1), -2);
        }
        DOC.due("mother(6, 0)", x.mother(6, 0), 5);
        DOC.due("mother(7, 0)", x.mother(7, 0), -2);
        DOC.due("mother(-1, 0)", x.mother(-1, 0), -2);
        DOC.says(7, "MOTHERS who are KIN to a MOTHER, as bits. -2: there is none such");
        int[] kin = {66, 1, 0, 0, 0, 0, 1, -2};
        for (int m = 0; m < 8; m++) {
            DOC.due("kin(" + m + ")", x.kin(m), kin[m]);
        }
        DOC.due("kin(-1)", x.kin(-1), -2);
        DOC.says(8, "Of a CAUSE, what 0: weighs, 1: signs, 2: its DAY. -2: there are none such");
        int[] cause = {30, 15, 13, -2};
        for (int what = 0; what < 4; what++) {
            DOC.due("cause(0, " + what + ")", x.cause(0, what), cause[what]);
            DOC.due("cause(1, " + what + ")", x.cause(1, what), what < 3 ? 0 : -2);
            DOC.due("cause(2, " + what + ")", x.cause(2, what), -2);
        }
        DOC.due("cause(0, -1)", x.cause(0, -1), -2);
        DOC.due("cause(-1, 0)", x.cause(-1, 0), -2);
    }
}
