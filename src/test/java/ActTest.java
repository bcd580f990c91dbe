/** Promises 68 to 71, 74, 76, 77: appeals, mothers away, acts taken back, signs, images. */
public final class ActTest {
    private static final Check CHECK = new Check();
    private static final String SEVEN = Check.plain(10, 11, 12, 13, 14, 15, 16);
    private static final String ONE = "circuit days 6 law 0 odds 3;" + SEVEN + "cause weighs 0 signs 0 at 1;";

    public static void main(String[] args) {
        appealOfTheSameDay();
        appealOfALaterDay();
        appealsInVain();
        orderOfADay();
        awayMothers();
        takingBack();
        twentyActs();
        signs();
        images();
        wrongInputs();
        CHECK.close();
    }

    private static void appealOfTheSameDay() {
        MotherBench x = Check.told(ONE);
        CHECK.due("sentence(0)", x.sentence(0), 11);
        CHECK.due("appeals(0, 1)", x.appeals(0, 1), 14);
        CHECK.due("often(0)", x.often(0), 2);
        CHECK.due("bench(0)", x.bench(0), 56);
        CHECK.due("found(0, 2)", x.found(0, 2), 15);
        CHECK.due("tried(0)", x.tried(0), 1);
        CHECK.due("middle(0)", x.middle(0), 4);
        CHECK.due("fresh(0)", x.fresh(0), 64);
        CHECK.due("docket(1)", x.docket(1), 2);
        CHECK.due("gavel(1)", x.gavel(1), 25);
        CHECK.due("all()", x.all(), 14);
        CHECK.due("hers(0)", x.hers(0), 1);
        CHECK.due("sum(3)", x.sum(3), 13);
        CHECK.due("idle()", x.idle(), 64);
        CHECK.due("count(6)", x.count(6), 1);
        CHECK.due("owes(0, 1)", x.owes(0, 1), 0);
        CHECK.due("owes(0, 2)", x.owes(0, 2), 14);
    }

    /** What is due in a DAY is by the latest hearing ahead of it: 11 up to DAY 3, 14 behind it. */
    private static void appealOfALaterDay() {
        MotherBench x = Check.told(ONE);
        CHECK.due("appeals(0, 3)", x.appeals(0, 3), 14);
        int[] owes = {0, 0, 11, 10, 14, 13, 12};
        for (int day = 0; day <= 6; day++) {
            CHECK.due("owes(0, " + day + ")", x.owes(0, day), owes[day]);
            CHECK.due("due(" + day + ")", x.due(day), owes[day]);
            CHECK.due("writers(" + day + ")", x.writers(day), owes[day] > 0 ? 1 : 0);
        }
        CHECK.due("most()", x.most(), 4);
        CHECK.due("tried(0)", x.tried(0), 3);
        CHECK.due("gavel(3)", x.gavel(3), 14);
        MotherBench free = Check.told("circuit days 6 law 0 odds 3;" + Check.plain(0, 0, 0, 2, 2, 2) + "cause weighs 0 signs 0 at 0;");
        CHECK.due("free(0) ahead of the appeal", free.free(0), 1);
        free.appeals(0, 3);
        CHECK.due("free(0) behind its latest hearing", free.free(0), 6);
    }

    private static void appealsInVain() {
        MotherBench x = Check.told(ONE);
        CHECK.due("appeals ahead of its DAY", x.appeals(0, 0), 11);
        CHECK.due("often(0) then", x.often(0), 1);
        CHECK.due("appeals(0, 1)", x.appeals(0, 1), 14);
        CHECK.due("appeals where one is left", x.appeals(0, 2), 14);
        CHECK.due("often(0) of it", x.often(0), 2);
        CHECK.due("sat(6, 6)", x.sat(6, 6), 0);
        CHECK.due("count(6)", x.count(6), 3);
        MotherBench unheard = Check.told("circuit days 2 law 0 odds 3;" + Check.plain(1, 2) + "cause weighs 0 signs 0 at 0;");
        CHECK.due("appeals of one not heard", unheard.appeals(0, 1), -1);
        CHECK.due("it is an act", unheard.count(6), 1);
    }

    /** Causes ahead of appeals, these in their order: cause 1 is appealed ahead of cause 0. */
    private static void orderOfADay() {
        MotherBench x = Check.told("circuit days 1 law 0 odds 0;" + Check.plain(10, 11, 12, 13, 14, 15)
                + "cause weighs 0 signs 0 at 0;cause weighs 1 signs 0 at 0;");
        CHECK.due("bench(0)", x.bench(0), 7);
        CHECK.due("bench(1)", x.bench(1), 56);
        CHECK.due("appeals(1, 0)", x.appeals(1, 0), 12);
        CHECK.due("appeals(0, 0)", x.appeals(0, 0), 14);
        CHECK.due("bench(1) of its appeal", x.bench(1), 7);
        CHECK.due("bench(0) of its appeal", x.bench(0), 56);
        CHECK.due("first(3)", x.first(3), 1);
        CHECK.due("together(0, 1)", x.together(0, 1), 2);
        CHECK.due("docket(0)", x.docket(0), 4);
        CHECK.due("same()", x.same(), 0);
        CHECK.due("hers(5)", x.hers(5), 3);
    }

    private static void awayMothers() {
        MotherBench x = Check.told(ONE);
        x.appeals(0, 1);
        CHECK.due("misses(3, 1)", x.misses(3, 1), 1);
        CHECK.due("bench(0) without 3", x.bench(0), 112);
        CHECK.due("sentence(0) without 3", x.sentence(0), 15);
        CHECK.due("misses(3, 1) again", x.misses(3, 1), 1);
        CHECK.due("misses(0, 0) changes nothing", x.misses(0, 0), 1);
        CHECK.due("bench(0) still", x.bench(0), 112);
        CHECK.due("count(6)", x.count(6), 4);
        MotherBench three = Check.told("circuit days 3 law 0 odds 3;" + Check.plain(1, 2, 3)
                + "cause weighs 0 signs 0 at 0;cause weighs 0 signs 0 at 1;cause weighs 0 signs 0 at 2;");
        CHECK.due("misses(2, 1)", three.misses(2, 1), 2);
        CHECK.due("unheard()", three.unheard(), 2);
        CHECK.due("misses(2, 0)", three.misses(2, 0), 1);
        CHECK.due("misses(1, 2)", three.misses(1, 2), 0);
        CHECK.due("unheard() then", three.unheard(), 7);
    }

    private static void takingBack() {
        MotherBench x = Check.told(ONE);
        CHECK.due("undo() of none", x.undo(), -5);
        CHECK.due("anew() of none", x.anew(), 0);
        x.appeals(0, 1);
        x.misses(3, 1);
        x.misses(0, 1);
        CHECK.due("sentence(0) of three acts: 1, 2, 4, then 5, 6 alone are left", x.sentence(0), 12);
        CHECK.due("undo()", x.undo(), 2);
        CHECK.due("sentence(0) of two acts", x.sentence(0), 15);
        CHECK.due("undo() again", x.undo(), 1);
        CHECK.due("sentence(0) of one act", x.sentence(0), 14);
        x.misses(3, 1);
        CHECK.due("anew()", x.anew(), 2);
        CHECK.due("sentence(0) of no act", x.sentence(0), 11);
        CHECK.due("count(6)", x.count(6), 0);
        CHECK.due("undo() then", x.undo(), -5);
        CHECK.due("undo() without a CIRCUIT", new MotherBench().undo(), -2);
        CHECK.due("anew() without a CIRCUIT", new MotherBench().anew(), -2);
    }

    private static void twentyActs() {
        MotherBench x = Check.told(ONE);
        for (int i = 1; i <= 20; i++) {
            CHECK.due("act " + i, x.misses(6, 5), 1);
        }
        CHECK.due("appeals, the 21st", x.appeals(0, 1), -5);
        CHECK.due("misses, the 21st", x.misses(0, 1), -5);
        CHECK.due("count(6)", x.count(6), 20);
        CHECK.due("-2 is asked ahead of -5", x.appeals(1, 1), -2);
        CHECK.due("-2 is asked ahead of -5, too", x.misses(7, 1), -2);
        CHECK.due("undo()", x.undo(), 19);
        CHECK.due("appeals, the 20th", x.appeals(0, 1), 14);
    }

    private static void signs() {
        MotherBench x = Check.told("circuit days 1 law 0 odds 0;" + "mother strict 20 ways 1 2 4 8;".repeat(3)
                + "cause weighs 0 signs 5 at 0;");
        CHECK.due("sentence(0)", x.sentence(0), 15);
        CHECK.due("rate(0, 10)", x.rate(0, 10), 5);
        CHECK.due("sentence(0) then", x.sentence(0), 10);
        CHECK.due("cause(0, 1) then", x.cause(0, 1), 10);
        CHECK.due("rate(0, 15)", x.rate(0, 15), 10);
        CHECK.due("rate(0, 0)", x.rate(0, 0), 15);
        CHECK.due("rate(0, 16)", x.rate(0, 16), -2);
        CHECK.due("rate(0, -1)", x.rate(0, -1), -2);
        CHECK.due("rate(1, 0)", x.rate(1, 0), -2);
        CHECK.due("rate(-1, 0)", x.rate(-1, 0), -2);
        x.misses(0, 0);
        CHECK.due("rate(0, 1) with acts", x.rate(0, 1), -5);
        CHECK.due("rate(0, 16) with acts", x.rate(0, 16), -2);
        CHECK.due("cause(0, 1) stays", x.cause(0, 1), 0);
        x.undo();
        CHECK.due("rate(0, 1) without acts", x.rate(0, 1), 0);
    }

    private static void images() {
        MotherBench x = Check.told(ONE);
        CHECK.due("back(0) of nothing", x.back(0), -6);
        x.rate(0, 3);
        x.appeals(0, 1);
        CHECK.due("image(0)", x.image(0), 0);
        x.misses(3, 1);
        CHECK.due("image(2)", x.image(2), 0);
        x.anew();
        x.rate(0, 0);
        CHECK.due("back(0)", x.back(0), 0);
        CHECK.due("acts of image 0", x.count(6), 1);
        CHECK.due("signs of image 0", x.cause(0, 1), 3);
        CHECK.due("sentence of image 0", x.sentence(0), 14);
        Check.put(x, "circuit days 1 law 0 odds 0;");
        x.circuit();
        Check.put(x, "kin");
        x.row(1, 0, 4);
        CHECK.due("back(2)", x.back(2), 0);
        CHECK.due("sentence of image 2", x.sentence(0), 15);
        CHECK.due("LINES of image 2", x.count(7), 9);
        CHECK.due("the tape is not of the image", x.count(8), 3);
        CHECK.due("rows are not of the image", x.count(9), 1);
        x.undo();
        CHECK.due("back(2) again", x.back(2), 0);
        CHECK.due("acts of image 2", x.count(6), 2);
        CHECK.due("back(1) of nothing", x.back(1), -6);
        for (int k = -1; k <= 3; k += 4) {
            CHECK.due("image(" + k + ")", x.image(k), -2);
            CHECK.due("back(" + k + ")", x.back(k), -2);
        }
        MotherBench empty = new MotherBench();
        CHECK.due("image(1) without a CIRCUIT", empty.image(1), 0);
        Check.put(empty, ONE);
        empty.circuit();
        CHECK.due("back(1) to none", empty.back(1), 0);
        CHECK.due("there is none then", empty.all(), -2);
    }

    private static void wrongInputs() {
        MotherBench x = Check.told(ONE);
        int[][] none = {{-1, 0}, {0, -1}, {0, 6}, {7, 0}};
        for (int[] n : none) {
            CHECK.due("appeals(" + n[0] + ", " + n[1] + ")", x.appeals(n[0], n[1]), -2);
            CHECK.due("misses(" + n[0] + ", " + n[1] + ")", x.misses(n[0], n[1]), -2);
        }
        CHECK.due("appeals(1, 0)", x.appeals(1, 0), -2);
        CHECK.due("count(6)", x.count(6), 0);
        CHECK.due("appeals(0, 5)", x.appeals(0, 5), 14);
    }
}
