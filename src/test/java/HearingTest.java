/**
 * Promises 9 to 42 on one circuit that was worked out by hand, LAW 1.
 * DAY 0: cause 0 before 0, 2, 3 (1 is kin to 0): 20, 40, 15; then 2 is 29, 3 is 6.
 * Cause 1 before 1, 2, 4 (0 is kin to 1): 19, 23, 12; then 2 is 28, 4 is 13.
 * DAY 2: cause 2 before 0, 3, 4 (1 is kin to 0): 6, 0, 11; then 3 is 7, 4 is 12.
 * Cause 3 comes on DAY 9, which there is not.
 */
public final class HearingTest {
    private static final Check CHECK = new Check();
    private static final String TEXT = "circuit days 4 law 1 odds 5;"
            + "mother strict 10 ways 1 2 3 4;mother strict 20 ways 5 0 0 0;mother strict 30 ways 0 10 0 0;"
            + "mother strict 5 ways 0 0 0 20;mother strict 12 ways 2 2 2 2;kin 0 1;"
            + "cause weighs 10 signs 0 at 0;cause weighs 4 signs 3 at 0;cause weighs 0 signs 8 at 2;"
            + "cause weighs 7 signs 1 at 9;";

    public static void main(String[] args) {
        MotherBench x = Check.told(TEXT);
        latestHearings(x);
        mothersByDay(x);
        mothersByHearing(x);
        letters(x);
        atAGlance(x);
        days(x);
        freeDays();
        ties();
        nobodyThere();
        CHECK.close();
    }

    private static void latestHearings(MotherBench x) {
        int[][] due = { // often, bench, found 0 .. 2, sentence, tried, middle, apart, fresh
            {1, 13, 20, 40, 15, 20, 0, 0, 25, 18},
            {1, 22, 19, 23, 12, 19, 0, 1, 11, 9},
            {1, 25, 6, 0, 11, 6, 2, 0, 11, 6},
            {0, 0, -1, -1, -1, -1, -1, -1, -1, 31}};
        for (int c = 0; c < 4; c++) {
            CHECK.due("often(" + c + ")", x.often(c), due[c][0]);
            CHECK.due("bench(" + c + ")", x.bench(c), due[c][1]);
            for (int i = 0; i < 3; i++) {
                CHECK.due("found(" + c + ", " + i + ")", x.found(c, i), due[c][2 + i]);
            }
            CHECK.due("sentence(" + c + ")", x.sentence(c), due[c][5]);
            CHECK.due("tried(" + c + ")", x.tried(c), due[c][6]);
            CHECK.due("middle(" + c + ")", x.middle(c), due[c][7]);
            CHECK.due("apart(" + c + ")", x.apart(c), due[c][8]);
            CHECK.due("fresh(" + c + ")", x.fresh(c), due[c][9]);
            CHECK.due("found(" + c + ", 3)", x.found(c, 3), -2);
            CHECK.due("found(" + c + ", -1)", x.found(c, -1), -2);
        }
        for (int c = -1; c <= 4; c += 5) {
            CHECK.due("often(" + c + ")", x.often(c), -2);
            CHECK.due("bench(" + c + ")", x.bench(c), -2);
            CHECK.due("found(" + c + ", 0)", x.found(c, 0), -2);
            CHECK.due("sentence(" + c + ")", x.sentence(c), -2);
            CHECK.due("tried(" + c + ")", x.tried(c), -2);
            CHECK.due("middle(" + c + ")", x.middle(c), -2);
            CHECK.due("apart(" + c + ")", x.apart(c), -2);
            CHECK.due("fresh(" + c + ")", x.fresh(c), -2);
            CHECK.due("free(" + c + ")", x.free(c), -2);
            CHECK.due("owes(" + c + ", 0)", x.owes(c, 0), -2);
        }
        CHECK.due("unheard()", x.unheard(), 8);
    }

    private static void mothersByDay(MotherBench x) {
        int[][] strict = {{10, 20, 30, 5, 12}, {10, 20, 28, 6, 13}, {10, 20, 28, 6, 13}, {10, 20, 28, 7, 12},
            {10, 20, 28, 7, 12}};
        int[][] sat = {{0, 0, 0, 0, 0}, {1, 1, 2, 1, 1}, {1, 1, 2, 1, 1}, {2, 1, 2, 2, 2}, {2, 1, 2, 2, 2}};
        for (int day = 0; day <= 4; day++) {
            for (int m = 0; m < 5; m++) {
                CHECK.due("strict(" + m + ", " + day + ")", x.strict(m, day), strict[day][m]);
                CHECK.due("sat(" + m + ", " + day + ")", x.sat(m, day), sat[day][m]);
            }
        }
        int[][] none = {{-1, 0}, {5, 0}, {0, -1}, {0, 5}};
        for (int[] n : none) {
            CHECK.due("strict(" + n[0] + ", " + n[1] + ")", x.strict(n[0], n[1]), -2);
            CHECK.due("sat(" + n[0] + ", " + n[1] + ")", x.sat(n[0], n[1]), -2);
        }
    }

    private static void mothersByHearing(MotherBench x) {
        int[][] due = { // hers, first, agrees, sum, rise, above, below
            {5, 0, 2, 26, 0, 0, 0}, {2, 1, 1, 19, 0, 0, 0}, {3, 0, 0, 63, -2, 2, 0}, {5, 0, 0, 15, 2, 0, 2},
            {6, 1, 0, 23, 0, 1, 1}};
        for (int m = 0; m < 5; m++) {
            CHECK.due("hers(" + m + ")", x.hers(m), due[m][0]);
            CHECK.due("first(" + m + ")", x.first(m), due[m][1]);
            CHECK.due("agrees(" + m + ")", x.agrees(m), due[m][2]);
            CHECK.due("sum(" + m + ")", x.sum(m), due[m][3]);
            CHECK.due("rise(" + m + ")", x.rise(m), due[m][4]);
            CHECK.due("above(" + m + ")", x.above(m), due[m][5]);
            CHECK.due("below(" + m + ")", x.below(m), due[m][6]);
        }
        for (int m = -1; m <= 5; m += 6) {
            CHECK.due("hers(" + m + ")", x.hers(m), -2);
            CHECK.due("first(" + m + ")", x.first(m), -2);
            CHECK.due("agrees(" + m + ")", x.agrees(m), -2);
            CHECK.due("sum(" + m + ")", x.sum(m), -2);
            CHECK.due("rise(" + m + ")", x.rise(m), -1000);
            CHECK.due("above(" + m + ")", x.above(m), -2);
            CHECK.due("below(" + m + ")", x.below(m), -2);
            CHECK.due("together(" + m + ", 0)", x.together(m, 0), -2);
            CHECK.due("together(0, " + m + ")", x.together(0, m), -2);
        }
        CHECK.due("together(0, 3)", x.together(0, 3), 2);
        CHECK.due("together(3, 0)", x.together(3, 0), 2);
        CHECK.due("together(0, 2)", x.together(0, 2), 1);
        CHECK.due("together(1, 3)", x.together(1, 3), 0);
        CHECK.due("together(4, 4)", x.together(4, 4), 2);
    }

    private static void letters(MotherBench x) {
        int[][] owes = {{0, 20, 19, 18, 17}, {0, 19, 18, 17, 16}, {0, 0, 0, 6, 5}, {0, 0, 0, 0, 0}};
        int[] due = {0, 39, 37, 41, 38};
        int[] writers = {0, 3, 3, 7, 7};
        for (int day = 0; day <= 4; day++) {
            for (int c = 0; c < 4; c++) {
                CHECK.due("owes(" + c + ", " + day + ")", x.owes(c, day), owes[c][day]);
            }
            CHECK.due("due(" + day + ")", x.due(day), due[day]);
            CHECK.due("writers(" + day + ")", x.writers(day), writers[day]);
        }
        for (int day = -1; day <= 5; day += 6) {
            CHECK.due("owes(0, " + day + ")", x.owes(0, day), -2);
            CHECK.due("due(" + day + ")", x.due(day), -2);
            CHECK.due("writers(" + day + ")", x.writers(day), -2);
            CHECK.due("hardest(" + day + ")", x.hardest(day), -2);
            CHECK.due("softest(" + day + ")", x.softest(day), -2);
        }
        CHECK.due("most()", x.most(), 3);
        CHECK.due("free(0)", x.free(0), -1);
        CHECK.due("free(3)", x.free(3), -1);
    }

    private static void atAGlance(MotherBench x) {
        CHECK.due("all()", x.all(), 45);
        CHECK.due("worst()", x.worst(), 0);
        CHECK.due("hardest(0)", x.hardest(0), 2);
        CHECK.due("hardest(4)", x.hardest(4), 2);
        CHECK.due("softest(0)", x.softest(0), 3);
        CHECK.due("softest(4)", x.softest(4), 3);
        CHECK.due("busy()", x.busy(), 0);
        CHECK.due("idle()", x.idle(), 0);
        CHECK.due("dissent()", x.dissent(), 0);
        CHECK.due("same()", x.same(), 0);
    }

    private static void days(MotherBench x) {
        int[] docket = {2, 0, 1, 0};
        int[] gavel = {39, 0, 6, 0};
        for (int day = 0; day < 4; day++) {
            CHECK.due("docket(" + day + ")", x.docket(day), docket[day]);
            CHECK.due("gavel(" + day + ")", x.gavel(day), gavel[day]);
        }
        for (int day = -1; day <= 4; day += 5) {
            CHECK.due("docket(" + day + ")", x.docket(day), -2);
            CHECK.due("gavel(" + day + ")", x.gavel(day), -2);
        }
    }

    private static void freeDays() {
        MotherBench x = Check.told("circuit days 5 law 0 odds 0;" + Check.plain(1, 1, 1)
                + "cause weighs 1 signs 0 at 0;cause weighs 3 signs 0 at 0;cause weighs 4 signs 0 at 0;cause weighs 0 signs 0 at 4;");
        CHECK.due("free of 2 letters", x.free(0), 3);
        CHECK.due("free of 4 letters", x.free(1), 5);
        CHECK.due("free of 5 letters", x.free(2), -1);
        CHECK.due("free of 1 letter too late", x.free(3), -1);
        CHECK.due("owes(0, 2)", x.owes(0, 2), 1);
        CHECK.due("owes(0, 3)", x.owes(0, 3), 0);
        CHECK.due("owes(0, 4): 0 at least", x.owes(0, 4), 0);
        MotherBench none = Check.told("circuit days 1 law 0 odds 0;" + Check.plain(0, 0, 0) + "cause weighs 0 signs 0 at 0;");
        CHECK.due("free of no letters", none.free(0), 1);
        CHECK.due("worst() of a sentence of 0", none.worst(), 0);
        CHECK.due("dissent() of a sentence of 0", none.dissent(), 0);
        CHECK.due("most() of no letters", none.most(), 0);
    }

    /** Three alike before whom everything is heard: the first of several, and pairs of one bench. */
    private static void ties() {
        MotherBench x = Check.told("circuit days 2 law 0 odds 0;" + Check.plain(7, 7, 7, 7)
                + "kin 3 0;cause weighs 0 signs 0 at 0;cause weighs 0 signs 0 at 0;cause weighs 0 signs 0 at 1;cause weighs 0 signs 0 at 2;");
        CHECK.due("bench(0)", x.bench(0), 7);
        CHECK.due("bench(1): 3 has sat least", x.bench(1), 14);
        CHECK.due("bench(2): 0 ahead of 3", x.bench(2), 7);
        CHECK.due("unheard(): a cause of the last DAY", x.unheard(), 8);
        CHECK.due("same()", x.same(), 1);
        CHECK.due("middle(0)", x.middle(0), 0);
        CHECK.due("worst()", x.worst(), 0);
        CHECK.due("dissent()", x.dissent(), 0);
        CHECK.due("hardest(1)", x.hardest(1), 0);
        CHECK.due("softest(1)", x.softest(1), 0);
        CHECK.due("busy()", x.busy(), 1);
        CHECK.due("above(0)", x.above(0), 0);
        CHECK.due("below(0)", x.below(0), 0);
        CHECK.due("agrees(1)", x.agrees(1), 3);
        CHECK.due("most()", x.most(), 2);
        MotherBench three = Check.told("circuit days 3 law 0 odds 0;" + Check.plain(1, 0, 9) + "cause weighs 0 signs 0 at 1;"
                + "cause weighs 0 signs 0 at 3;cause weighs 5 signs 0 at 2;");
        CHECK.due("most() of one letter in DAY 2, six in DAY 3", three.most(), 3);
        CHECK.due("same() of two that are heard", three.same(), 1);
        MotherBench one = Check.told("circuit days 3 law 0 odds 0;" + Check.plain(0, 1, 9) + "cause weighs 0 signs 0 at 1;");
        CHECK.due("most() of one letter", one.most(), 2);
        CHECK.due("writers(2) of one letter", one.writers(2), 1);
        CHECK.due("writers(3) of none", one.writers(3), 0);
        CHECK.due("apart(0) by the first one", one.apart(0), 9);
        MotherBench last = Check.told("circuit days 3 law 0 odds 0;" + Check.plain(9, 1, 0) + "cause weighs 0 signs 0 at 1;".repeat(2));
        CHECK.due("apart(0) by the last one", last.apart(0), 9);
        CHECK.due("same() of two", last.same(), 1);
    }

    private static void nobodyThere() {
        MotherBench x = Check.told("circuit days 1 law 0 odds 0;cause weighs 0 signs 0 at 0;");
        CHECK.due("hardest(0) of none", x.hardest(0), -1);
        CHECK.due("softest(0) of none", x.softest(0), -1);
        CHECK.due("busy() of none", x.busy(), -1);
        CHECK.due("idle() of none", x.idle(), 0);
        CHECK.due("worst() of none", x.worst(), -1);
        CHECK.due("dissent() of none", x.dissent(), -1);
        CHECK.due("most() of none", x.most(), 0);
        CHECK.due("all() of none", x.all(), 0);
        CHECK.due("fresh(0) of none", x.fresh(0), 0);
        MotherBench kin = Check.told("circuit days 1 law 2 odds 0;" + Check.plain(1, 2, 3, 4)
                + "kin 0 1;kin 0 2;kin 1 3;cause weighs 0 signs 0 at 0;");
        CHECK.due("0 comes, only 3 sits with her", kin.bench(0), 0);
        CHECK.due("nobody has sat", kin.idle(), 15);
        CHECK.due("nobody gets stricter", kin.rise(3), 0);
        CHECK.due("first of none", kin.first(0), -1);
    }
}
