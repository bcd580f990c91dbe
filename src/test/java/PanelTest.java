/** Promises 43 to 49: sets of three as strict as told. */
public final class PanelTest {
    private static final Check CHECK = new Check();

    public static void main(String[] args) {
        handWorked();
        kindest();
        noSet();
        wrongInputs();
        CHECK.close();
    }

    /** Cause 0 finds 20, 30, 40, 15, 22; cause 1 (signs 8) 6, 20, 30, 0, 10; 0 and 1 are kin. */
    private static void handWorked() {
        MotherBench x = Check.told("circuit days 4 law 1 odds 5;"
                + "mother strict 10 ways 1 2 3 4;mother strict 20 ways 5 0 0 0;mother strict 30 ways 0 10 0 0;"
                + "mother strict 5 ways 0 0 0 20;mother strict 12 ways 2 2 2 2;kin 0 1;"
                + "cause weighs 10 signs 0 at 0;cause weighs 0 signs 8 at 9;");
        int[][] finds = {{20, 6}, {30, 20}, {40, 30}, {15, 0}, {22, 10}};
        for (int m = 0; m < 5; m++) {
            CHECK.due("finds(" + m + ", 0)", x.finds(m, 0), finds[m][0]);
            CHECK.due("finds(" + m + ", 1)", x.finds(m, 1), finds[m][1]);
        }
        CHECK.due("benches()", x.benches(), 7);
        CHECK.due("mild(0)", x.mild(0), 20);
        CHECK.due("milds(0): 13 ahead of 25", x.milds(0), 13);
        CHECK.due("harsh(0)", x.harsh(0), 30);
        CHECK.due("harshes(0): 14 ahead of 22", x.harshes(0), 14);
        // {0,2,3}: 6, {0,2,4}: 10, {0,3,4}: 6, {1,2,3}: 20, {1,2,4}: 20, {1,3,4}: 10, {2,3,4}: 10
        CHECK.due("mild(1)", x.mild(1), 6);
        CHECK.due("milds(1)", x.milds(1), 13);
        CHECK.due("harsh(1)", x.harsh(1), 20);
        CHECK.due("harshes(1)", x.harshes(1), 14);
        CHECK.due("kind(0)", x.kind(0), -1);
        CHECK.due("kind(1)", x.kind(1), -1);
        x.misses(0, 0);
        x.misses(2, 0);
        CHECK.due("acts change nothing here", x.milds(0), 13);
        x.anew();
        x.rate(0, 8);
        CHECK.due("mild(0) by other signs", x.mild(0), 16);
        CHECK.due("finds(3, 0): 0 at least", x.finds(3, 0), 0);
    }

    private static void kindest() {
        String head = "circuit days 1 law 0 odds 0;";
        String cause = "cause weighs 0 signs 0 at 0;";
        CHECK.due("kind of 5 0 0 9", Check.told(head + Check.plain(5, 0, 0, 9) + cause).kind(0), 1);
        CHECK.due("kind of 0 0 5 9", Check.told(head + Check.plain(0, 0, 5, 9) + cause).kind(0), 0);
        CHECK.due("kind of 0 0 0", Check.told(head + Check.plain(0, 0, 0) + cause).kind(0), 0);
        CHECK.due("kind of 0 1 1", Check.told(head + Check.plain(0, 1, 1) + cause).kind(0), -1);
        // Sets without kin: {0,2,3} and {1,2,3}, both with a middle of 0.
        CHECK.due("kind by kin", Check.told(head + Check.plain(0, 0, 5, 0) + "kin 0 1;" + cause).kind(0), 2);
    }

    private static void noSet() {
        MotherBench x = Check.told("circuit days 1 law 0 odds 0;" + Check.plain(1, 2, 3) + "kin 0 2;cause weighs 0 signs 0 at 0;");
        CHECK.due("benches() of kin", x.benches(), 0);
        CHECK.due("mild(0) of kin", x.mild(0), -1);
        CHECK.due("milds(0) of kin", x.milds(0), -1);
        CHECK.due("harsh(0) of kin", x.harsh(0), -1);
        CHECK.due("harshes(0) of kin", x.harshes(0), -1);
        CHECK.due("kind(0) of kin", x.kind(0), -1);
        MotherBench three = Check.told("circuit days 1 law 0 odds 0;" + Check.plain(0, 0, 5) + "cause weighs 0 signs 0 at 0;");
        CHECK.due("benches() of three", three.benches(), 1);
        CHECK.due("mild(0) of three", three.mild(0), 0);
        CHECK.due("milds(0) of three", three.milds(0), 7);
        CHECK.due("harsh(0) of three", three.harsh(0), 0);
        CHECK.due("harshes(0) of three", three.harshes(0), 7);
        MotherBench seven = Check.told("circuit days 1 law 0 odds 0;" + Check.plain(1, 2, 3, 4, 5, 6, 7) + "cause weighs 0 signs 0 at 0;");
        CHECK.due("benches() of seven", seven.benches(), 35);
        CHECK.due("harshes(0) of seven: 5, 6 and the first", seven.harshes(0), 97);
    }

    private static void wrongInputs() {
        MotherBench x = Check.told("circuit days 1 law 0 odds 0;" + Check.plain(1, 2, 3) + "cause weighs 0 signs 0 at 0;");
        CHECK.due("finds(3, 0)", x.finds(3, 0), -2);
        CHECK.due("finds(-1, 0)", x.finds(-1, 0), -2);
        CHECK.due("finds(0, 1)", x.finds(0, 1), -2);
        CHECK.due("finds(0, -1)", x.finds(0, -1), -2);
        for (int c = -1; c <= 1; c += 2) {
            CHECK.due("mild(" + c + ")", x.mild(c), -2);
            CHECK.due("milds(" + c + ")", x.milds(c), -2);
            CHECK.due("harsh(" + c + ")", x.harsh(c), -2);
            CHECK.due("harshes(" + c + ")", x.harshes(c), -2);
            CHECK.due("kind(" + c + ")", x.kind(c), -2);
        }
        CHECK.due("benches() without a CIRCUIT", new MotherBench().benches(), -2);
    }
}
