/** Promises 1 to 8, and the counts of 75: the tape, the text, its faults, and what it told. */
public final class TextTest {
    private static final Check CHECK = new Check();
    private static final String HEAD = "circuit days 4 law 1 odds 5;";
    private static final String MOTHER = "mother strict 1 ways 1 1 1 1;";
    private static final String CAUSE = "cause weighs 1 signs 1 at 1;";

    public static void main(String[] args) {
        newObject();
        tape();
        bytesOfTheTape();
        toldThings();
        circuitInPlaceOfAnother();
        faultsOfForm();
        faultsOfNumbers();
        faultsOfKin();
        faultsOfNumber();
        faultStays();
        CHECK.close();
    }

    private static void newObject() {
        MotherBench x = new MotherBench();
        CHECK.due("all() of a new object", x.all(), -2);
        CHECK.due("unheard() of a new object", x.unheard(), -2);
        for (int what = 0; what <= 9; what++) {
            CHECK.due("count(" + what + ") of a new object", x.count(what), 0);
        }
        CHECK.due("count(10)", x.count(10), -1);
        CHECK.due("count(-1)", x.count(-1), -1);
        CHECK.due("fault(0) ahead of any", x.fault(0), 0);
        CHECK.due("fault(1) ahead of any", x.fault(1), -1);
        CHECK.due("fault(2)", x.fault(2), -1);
        CHECK.due("fault(-1)", x.fault(-1), -1);
        CHECK.due("back(0)", x.back(0), -6);
        CHECK.due("NONE", MotherBench.NONE, -1);
    }

    private static void tape() {
        MotherBench x = new MotherBench();
        for (int i = 1; i <= 35; i++) {
            CHECK.due("feed " + i, x.feed(0, 0, 0, 0, 0), 20 * i);
        }
        CHECK.due("feed beyond 700", x.feed(0, 0, 0, 0, 0), -1);
        CHECK.due("count(8) of a full tape", x.count(8), 700);
        CHECK.due("end(701)", x.end(701), -1);
        CHECK.due("end(-1)", x.end(-1), -1);
        CHECK.due("end(700)", x.end(700), 700);
        CHECK.due("end(681)", x.end(681), 681);
        CHECK.due("feed to 701", x.feed(0, 0, 0, 0, 0), -1);
        CHECK.due("count(8) as it was", x.count(8), 681);
        CHECK.due("end(680)", x.end(680), 680);
        CHECK.due("feed to 700", x.feed(0, 0, 0, 0, 0), 700);
        CHECK.due("end(0)", x.end(0), 0);
        CHECK.due("end(1) of an empty tape", x.end(1), -1);
    }

    /** "circuit days 1 law 2 odds 3;" byte by byte, the highest first. */
    private static void bytesOfTheTape() {
        MotherBench x = new MotherBench();
        x.feed(0x63697263, 0x75697420, 0x64617973, 0x2031206c, 0x61772032);
        x.feed(0x206f6464, 0x7320333b, 0xffffffff, 0, 0);
        CHECK.due("end(28)", x.end(28), 28);
        CHECK.due("circuit()", x.circuit(), 1);
        CHECK.due("days", x.count(0), 1);
        CHECK.due("law", x.count(1), 2);
        CHECK.due("odds", x.count(2), 3);
        CHECK.due("the tape then", x.count(8), 0);
    }

    private static void toldThings() {
        MotherBench x = Check.told("circuit days 14 law 3 odds 10;mother strict 40 ways 20 0 1 2;\n"
                + "mother strict 0 ways 3 4 5 6 ; mother strict 007 ways 9 8 7 6;kin 2 0;kin 1 2;"
                + "cause weighs 30 signs 15 at 13;cause weighs 0signs0at0;");
        int[] counts = {14, 3, 10, 3, 2, 2, 0, 8, 0, 0};
        for (int what = 0; what < counts.length; what++) {
            CHECK.due("count(" + what + ")", x.count(what), counts[what]);
        }
        int[][] mothers = {{40, 20, 0, 1, 2}, {0, 3, 4, 5, 6}, {7, 9, 8, 7, 6}};
        for (int m = 0; m < 3; m++) {
            for (int what = 0; what < 5; what++) {
                CHECK.due("mother(" + m + ", " + what + ")", x.mother(m, what), mothers[m][what]);
            }
        }
        CHECK.due("mother(3, 0)", x.mother(3, 0), -2);
        CHECK.due("mother(-1, 0)", x.mother(-1, 0), -2);
        CHECK.due("mother(0, 5)", x.mother(0, 5), -2);
        CHECK.due("mother(0, -1)", x.mother(0, -1), -2);
        CHECK.due("kin(0)", x.kin(0), 4);
        CHECK.due("kin(1)", x.kin(1), 4);
        CHECK.due("kin(2)", x.kin(2), 3);
        CHECK.due("kin(3)", x.kin(3), -2);
        CHECK.due("kin(-1)", x.kin(-1), -2);
        CHECK.due("cause(0, 0)", x.cause(0, 0), 30);
        CHECK.due("cause(0, 1)", x.cause(0, 1), 15);
        CHECK.due("cause(0, 2)", x.cause(0, 2), 13);
        CHECK.due("cause(1, 2)", x.cause(1, 2), 0);
        CHECK.due("cause(0, 3)", x.cause(0, 3), -2);
        CHECK.due("cause(0, -1)", x.cause(0, -1), -2);
        CHECK.due("cause(2, 0)", x.cause(2, 0), -2);
        CHECK.due("cause(-1, 0)", x.cause(-1, 0), -2);
    }

    private static void circuitInPlaceOfAnother() {
        MotherBench x = Check.told(HEAD + Check.plain(1, 2, 3) + "kin 0 1;" + CAUSE);
        x.misses(0, 0);
        CHECK.due("acts", x.count(6), 1);
        Check.put(x, "circuit days 2 law 0 odds 0;" + Check.plain(5, 6));
        CHECK.due("circuit() again", x.circuit(), 3);
        CHECK.due("acts are gone", x.count(6), 0);
        CHECK.due("kin are gone", x.kin(0), 0);
        CHECK.due("causes are gone", x.cause(0, 0), -2);
        CHECK.due("mothers are others", x.mother(1, 0), 6);
        CHECK.due("circuit() of an empty tape", x.circuit(), 0);
        CHECK.due("there is none then", x.all(), -2);
        CHECK.due("count(0) then", x.count(0), 0);
        Check.put(x, " \n  ");
        CHECK.due("circuit() of blanks", x.circuit(), 0);
        CHECK.due("fault(0) then", x.fault(0), 0);
    }

    private static void faulty(String text, int fault, int place) {
        MotherBench x = new MotherBench();
        Check.put(x, text);
        CHECK.due("circuit() of '" + text + "'", x.circuit(), -4);
        CHECK.due("fault(0) of '" + text + "'", x.fault(0), fault);
        CHECK.due("fault(1) of '" + text + "'", x.fault(1), place);
        CHECK.due("the tape of '" + text + "'", x.count(8), text.length());
    }

    private static void faultsOfForm() {
        faulty("mother strict 1 ways 1 1 1 1;", 1, 0);
        faulty(";", 1, 0);
        faulty(" 7", 1, 1);
        faulty("circuits days 4 law 1 odds 5;", 1, 0);
        faulty("circuit law 4", 1, 8);
        faulty("circuit days ;", 1, 13);
        faulty("circuit days 4", 1, 14);
        faulty("circuit days 4  \n ", 1, 18);
        faulty("circuit days 4 law 1 odds 5", 1, 27);
        faulty("circuit days 4 law 1 odds 5 5;", 1, 28);
        faulty(HEAD + ";", 1, 28);
        faulty(HEAD + " " + HEAD, 1, 29);
        faulty(HEAD + "judge", 1, 28);
        faulty(HEAD + "5", 1, 28);
        faulty(HEAD + "\tkin", 1, 28);
        faulty(HEAD + "Kin", 1, 28);
        faulty(HEAD + "\u0000", 1, 28);
        faulty(HEAD + (char) 200, 1, 28);
        faulty(HEAD + "mother strict 1 ways 1 1 1;", 1, 54);
        faulty(HEAD + "mother strict 1 ways 1 1 1 1 mother", 1, 57);
        faulty(HEAD + "mother strict 1x ways 1 1 1 1;", 1, 43);
        faulty(HEAD + "mother strict -1 ways 1 1 1 1;", 1, 42);
        faulty(HEAD + "cause weighs 1 signs 1 on 1;", 1, 51);
        faulty(HEAD + "cau se", 1, 28);
        faulty(HEAD + "kinz 0 1;", 1, 28);
        faulty(HEAD + "kina 0 1;", 1, 28);
        faulty(HEAD + "mother strict 1 ways 1 1 1 1{", 1, 56);
        faulty(HEAD + "mother strict 1 ways 1 1 1 1:", 1, 56);
    }

    private static void faultsOfNumbers() {
        faulty("circuit days 0 law 9 odds 5;", 2, 13);
        faulty("circuit days 15 law 1 odds 5;", 2, 13);
        faulty("circuit days 1 law 4 odds 5;", 2, 19);
        faulty("circuit days 1 law 0 odds 11;", 2, 26);
        faulty("circuit days 99999999999999999999 law 1 odds 5;", 2, 13);
        faulty("circuit days 4294967297 law 1 odds 5;", 2, 13);
        faulty(HEAD + "mother strict 41 ways", 2, 42);
        faulty(HEAD + "mother strict 40 ways 21 1 1 1;", 2, 50);
        faulty(HEAD + "mother strict 40 ways 20 20 20 21;", 2, 59);
        faulty(HEAD + "cause weighs 31 signs 1 at 1;", 2, 41);
        faulty(HEAD + "cause weighs 30 signs 16 at 1;", 2, 50);
        faulty(HEAD + "cause weighs 30 signs 15 at 14;", 2, 56);
        MotherBench x = Check.told("circuit days 00000000000000000014 law 03 odds 0010;");
        CHECK.due("days told with zeros", x.count(0), 14);
    }

    private static void faultsOfKin() {
        String two = HEAD + MOTHER + MOTHER;
        int at = two.length();
        faulty(HEAD + "kin 0 0;", 2, 32);
        faulty(two + "kin 2 9;", 2, at + 4);
        faulty(two + "kin 1 2;", 2, at + 6);
        faulty(two + "kin 1 1;", 2, at + 6);
        faulty(two + "kin 0 1;kin 0 1;", 2, at + 14);
        faulty(two + "kin 0 1;kin 1 0;", 2, at + 14);
        faulty(two + "kin 0;", 1, at + 5);
        faulty(two + "kin 0 0 kin", 2, at + 6);
        faulty(two + "kin 0 2;" + MOTHER, 2, at + 6);
    }

    private static void faultsOfNumber() {
        String seven = HEAD + MOTHER.repeat(7);
        faulty(seven + MOTHER, 3, seven.length());
        faulty(seven + " mother", 3, seven.length() + 1);
        faulty(seven + "mothers", 1, seven.length());
        faulty(HEAD + CAUSE.repeat(8) + "cause", 3, 28 + 8 * CAUSE.length());
        String kin = seven + "kin 0 1;kin 0 2;kin 0 3;kin 0 4;kin 0 5;kin 0 6;kin 1 2;kin 1 3;";
        faulty(kin + "kin 1 4;", 3, kin.length());
        MotherBench x = Check.told(kin + CAUSE.repeat(8));
        CHECK.due("LINES of the greatest", x.count(7), 24);
        CHECK.due("kin of the greatest", x.kin(0), 126);
    }

    private static void faultStays() {
        MotherBench x = Check.told(HEAD + Check.plain(1, 2, 3) + CAUSE);
        x.misses(1, 0);
        Check.put(x, "circuit days 9");
        CHECK.due("circuit() with a fault", x.circuit(), -4);
        CHECK.due("days stay", x.count(0), 4);
        CHECK.due("acts stay", x.count(6), 1);
        CHECK.due("the tape stays", x.count(8), 14);
        Check.put(x, " law 0 odds 0;");
        CHECK.due("circuit() behind it", x.circuit(), 1);
        CHECK.due("fault(0) behind it", x.fault(0), 0);
        CHECK.due("fault(1) behind it", x.fault(1), -1);
        CHECK.due("days are new", x.count(0), 9);
    }
}
