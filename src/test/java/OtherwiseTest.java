/** Promises 50 to 53, 62 to 65: one thing otherwise, sets that sit alone, two who may kneel. */
public final class OtherwiseTest {
    private static final Check CHECK = new Check();
    private static final String CAUSE = "cause weighs 0 signs 0 at 0;";

    public static void main(String[] args) {
        signs();
        signsOfAppeals();
        days();
        blames();
        worths();
        shares();
        kneeling();
        unheardKneeling();
        wrongInputs();
        CHECK.close();
    }

    /** Before 0, 2, 3 cause 0 finds 20, 40, 15; the middle gets to 10 by all four signs alone. */
    private static void signs() {
        MotherBench x = Check.told("circuit days 4 law 1 odds 5;"
                + "mother strict 10 ways 1 2 3 4;mother strict 20 ways 5 0 0 0;mother strict 30 ways 0 10 0 0;"
                + "mother strict 5 ways 0 0 0 20;kin 0 1;cause weighs 10 signs 0 at 0;cause weighs 0 signs 0 at 9;");
        CHECK.due("plea(0)", x.plea(0), 4);
        CHECK.due("pleas(0)", x.pleas(0), 15);
        CHECK.due("cause(0, 1) is as it was", x.cause(0, 1), 0);
        CHECK.due("plea(1)", x.plea(1), -1);
        CHECK.due("pleas(1)", x.pleas(1), -1);
        // Bit 1 or bit 2 brings two of them to 0, 3 as told would too: the least of the fewest.
        MotherBench few = Check.told("circuit days 1 law 0 odds 0;mother strict 5 ways 3 5 6 0;"
                + "mother strict 5 ways 2 7 5 0;mother strict 9 ways 0 0 0 1;cause weighs 0 signs 15 at 0;");
        CHECK.due("plea of few", few.plea(0), 1);
        CHECK.due("pleas of few", few.pleas(0), 2);
        MotherBench none = Check.told("circuit days 1 law 0 odds 0;" + Check.plain(1, 2, 3) + "cause weighs 0 signs 7 at 0;");
        CHECK.due("plea where no sign helps", none.plea(0), 0);
        CHECK.due("pleas where no sign helps", none.pleas(0), 0);
    }

    /** The latest hearing counts: 3, 4, 5 mind sign 3 alone, 0, 1, 2 sign 0 alone. */
    private static void signsOfAppeals() {
        String first = "mother strict 9 ways 9 0 0 0;".repeat(3);
        String second = "mother strict 9 ways 0 0 0 9;".repeat(3);
        MotherBench x = Check.told("circuit days 2 law 0 odds 0;" + first + second + CAUSE);
        CHECK.due("pleas(0)", x.pleas(0), 1);
        x.appeals(0, 1);
        CHECK.due("pleas(0) of an appeal", x.pleas(0), 8);
    }

    /** 0, 30, 30, 0: who is heard first has 30, who is second (before 3, 0, 1) 0. */
    private static void days() {
        MotherBench x = Check.told("circuit days 3 law 0 odds 0;" + Check.plain(0, 30, 30, 0)
                + "cause weighs 0 signs 0 at 0;cause weighs 0 signs 0 at 1;");
        CHECK.due("sentence(0)", x.sentence(0), 30);
        CHECK.due("sentence(1)", x.sentence(1), 0);
        CHECK.due("when(0)", x.when(0), 2);
        CHECK.due("when(1)", x.when(1), 0);
        CHECK.due("cause(0, 2) is as it was", x.cause(0, 2), 0);
        MotherBench late = Check.told("circuit days 3 law 0 odds 0;" + Check.plain(1, 2, 3) + "cause weighs 0 signs 0 at 3;");
        CHECK.due("sentence of the last DAY", late.sentence(0), -1);
        CHECK.due("when it would be heard", late.when(0), 0);
        late.misses(0, 0);
        late.misses(1, 1);
        CHECK.due("when nobody is away", late.when(0), 2);
        late.misses(2, 2);
        CHECK.due("when there are never three", late.when(0), -1);
    }

    /** 0, 30, 0, 30: cause 0 has 0 and leaves 30 to cause 1, which has 0 without it. */
    private static void blames() {
        String text = "circuit days 1 law 0 odds 0;" + Check.plain(0, 30, 0, 30) + CAUSE + CAUSE;
        MotherBench x = Check.told(text);
        CHECK.due("all()", x.all(), 30);
        CHECK.due("blame()", x.blame(), 0);
        MotherBench little = Check.told("circuit days 1 law 0 odds 0;" + Check.plain(0, 1, 0, 1) + CAUSE + CAUSE);
        CHECK.due("blame() for one letter", little.blame(), 0);
        MotherBench none = Check.told("circuit days 1 law 0 odds 0;" + Check.plain(0, 30, 30, 0) + CAUSE + CAUSE);
        CHECK.due("blame() of none", none.blame(), -1);
        CHECK.due("blame() without causes", Check.told("circuit days 1 law 0 odds 0;").blame(), -1);
        // By LAW 2 each earlier cause makes the later ones 2 harder: without cause 0 they are 1 + 3, else 3 + 5.
        MotherBench law = Check.told("circuit days 1 law 2 odds 0;" + Check.plain(1, 1, 1) + CAUSE + CAUSE + CAUSE);
        CHECK.due("all() by LAW 2", law.all(), 9);
        CHECK.due("blame() by LAW 2", law.blame(), 0);
        // Without cause 0 the others have 21 + 3, without cause 1 they have 1 + 3, without cause 2 they stay.
        MotherBench middle = Check.told("circuit days 1 law 2 odds 0;" + Check.plain(1, 1, 1) + CAUSE
                + "cause weighs 20 signs 0 at 0;" + CAUSE);
        CHECK.due("all() of 1, 23, 5", middle.all(), 29);
        CHECK.due("blame() leaves 1 + 3, not 21 + 3", middle.blame(), 1);
        // Cause 2 alone weighs: without it all() is least, but the others are as they are now.
        MotherBench heavy = Check.told("circuit days 1 law 2 odds 0;" + Check.plain(1, 1, 1) + CAUSE + CAUSE
                + "cause weighs 30 signs 0 at 0;");
        CHECK.due("blame() of what costs the others", heavy.blame(), 0);
    }

    private static void worths() {
        MotherBench x = Check.told("circuit days 1 law 0 odds 0;" + Check.plain(0, 10, 20, 30) + CAUSE);
        int[] worth = {0, 0, 0, 0, 0, 0, 0, 10, 0, 0, 0, 10, 0, 20, 20, 10};
        for (int set = 0; set < 16; set++) {
            CHECK.due("worth(" + set + ")", x.worth(set), worth[set]);
        }
        CHECK.due("worth(16)", x.worth(16), -2);
        CHECK.due("worth(-1)", x.worth(-1), -2);
        CHECK.due("worth(0) without a CIRCUIT", new MotherBench().worth(0), -2);
        x.misses(0, 0);
        CHECK.due("worth(7) with one away", x.worth(7), 0);
        CHECK.due("worth(15) with one away", x.worth(15), 20);
    }

    private static void shares() {
        MotherBench x = Check.told("circuit days 1 law 0 odds 0;" + Check.plain(0, 10, 20, 30) + CAUSE);
        int[][] due = {{5, 6}, {5, 6}, {25, 6}, {25, 6}};
        MotherBench y = Check.told("circuit days 1 law 0 odds 0;" + Check.plain(0, 0, 30, 30) + CAUSE);
        int[][] below = {{-5, 1}, {-5, 1}, {5, 1}, {5, 1}};
        for (int m = 0; m < 4; m++) {
            for (int what = 0; what < 2; what++) {
                CHECK.due("share(" + m + ", " + what + ")", x.share(m, what), due[m][what]);
                CHECK.due("share(" + m + ", " + what + ") below 0, too", y.share(m, what), below[m][what]);
            }
        }
        MotherBench alone = Check.told("circuit days 1 law 0 odds 0;" + Check.plain(9) + CAUSE);
        CHECK.due("share(0, 0) of nothing", alone.share(0, 0), 0);
        CHECK.due("share(0, 1) of nothing", alone.share(0, 1), 1);
        int[][] none = {{4, 0}, {-1, 0}, {0, 2}, {0, -1}};
        for (int[] n : none) {
            CHECK.due("share(" + n[0] + ", " + n[1] + ")", x.share(n[0], n[1]), -1000000);
        }
    }

    /** Cause 0 has 25, 20 if it kneels; cause 1 weighs nothing and has 20 anyway. */
    private static void kneeling() {
        MotherBench x = Check.told("circuit days 3 law 0 odds 5;" + Check.plain(10, 20, 30)
                + "cause weighs 5 signs 0 at 0;cause weighs 0 signs 0 at 1;cause weighs 2 signs 0 at 1;");
        CHECK.due("gets(0, 1, 0, 0)", x.gets(0, 1, 0, 0), 35);
        CHECK.due("gets(0, 1, 1, 0)", x.gets(0, 1, 1, 0), 37);
        CHECK.due("gets(0, 1, 0, 1)", x.gets(0, 1, 0, 1), 35);
        CHECK.due("gets(1, 0, 0, 1)", x.gets(1, 0, 0, 1), 40);
        CHECK.due("gets(1, 0, 1, 1)", x.gets(1, 0, 1, 1), 37);
        CHECK.due("gets(2, 0, 1, 0)", x.gets(2, 0, 1, 0), 37);
        CHECK.due("rests(0, 1)", x.rests(0, 1), 2);
        CHECK.due("rests(1, 0)", x.rests(1, 0), 4);
        CHECK.due("rests(1, 2)", x.rests(1, 2), 1);
        CHECK.due("cause(0, 0) is as it was", x.cause(0, 0), 5);
        MotherBench both = Check.told("circuit days 1 law 0 odds 5;" + Check.plain(40, 40, 40)
                + "cause weighs 30 signs 0 at 0;cause weighs 30 signs 0 at 0;cause weighs 3 signs 0 at 0;");
        CHECK.due("gets below 0", both.gets(0, 1, 0, 0), -10);
        CHECK.due("rests(0, 1) of both", both.rests(0, 1), 8);
        CHECK.due("rests(2, 0): 3 less and 3 less are one", both.rests(2, 0), 12);
    }

    /** By the nearest words a cause that is not HEARD has a SENTENCE of 0 here. */
    private static void unheardKneeling() {
        MotherBench x = Check.told("circuit days 1 law 0 odds 5;" + Check.plain(10, 20, 30)
                + "cause weighs 5 signs 0 at 0;cause weighs 5 signs 0 at 1;");
        CHECK.due("gets(1, 0, 0, 0)", x.gets(1, 0, 0, 0), 60);
        CHECK.due("gets(1, 0, 1, 0)", x.gets(1, 0, 1, 0), 57);
        CHECK.due("rests(0, 1)", x.rests(0, 1), 2);
    }

    private static void wrongInputs() {
        MotherBench x = Check.told("circuit days 1 law 0 odds 5;" + Check.plain(10, 20, 30) + CAUSE + CAUSE);
        for (int c = -1; c <= 2; c += 3) {
            CHECK.due("plea(" + c + ")", x.plea(c), -2);
            CHECK.due("pleas(" + c + ")", x.pleas(c), -2);
            CHECK.due("when(" + c + ")", x.when(c), -2);
            CHECK.due("rests(" + c + ", 0)", x.rests(c, 0), -2);
            CHECK.due("rests(0, " + c + ")", x.rests(0, c), -2);
            CHECK.due("gets(" + c + ", 0, 0, 0)", x.gets(c, 0, 0, 0), -1000);
            CHECK.due("gets(0, " + c + ", 0, 0)", x.gets(0, c, 0, 0), -1000);
            CHECK.due("gets(0, 1, " + c + ", 0)", x.gets(0, 1, c, 0), -1000);
            CHECK.due("gets(0, 1, 0, " + c + ")", x.gets(0, 1, 0, c), -1000);
        }
        CHECK.due("rests(1, 1)", x.rests(1, 1), -2);
        CHECK.due("gets(1, 1, 0, 0)", x.gets(1, 1, 0, 0), -1000);
        CHECK.due("blame() without a CIRCUIT", new MotherBench().blame(), -2);
    }
}
