/** Promises 66, 67, 72, 73: causes by chance, and decades drawn. */
public final class ChanceTest {
    private static final Check CHECK = new Check();
    private static final String CAUSE = "cause weighs 0 signs 0 at 0;";

    public static void main(String[] args) {
        halves();
        oneAheadOfAnother();
        edgesOfOdds();
        greatest();
        appealsOfThoseNotBrought();
        draws();
        wrongInputs();
        CHECK.close();
    }

    private static MotherBench two(int odds) {
        return Check.told("circuit days 3 law 0 odds " + odds + ";" + Check.plain(10, 20, 30)
                + "cause weighs 5 signs 0 at 0;cause weighs 0 signs 0 at 1;");
    }

    private static void chance(MotherBench x, int cause, int n, int above, int below) {
        CHECK.due("chance(" + cause + ", " + n + ", 0)", x.chance(cause, n, 0), above);
        CHECK.due("chance(" + cause + ", " + n + ", 1)", x.chance(cause, n, 1), below);
    }

    private static void mean(MotherBench x, long above, long below) {
        CHECK.due("mean(0)", x.mean(0), above);
        CHECK.due("mean(1)", x.mean(1), below);
    }

    private static void halves() {
        MotherBench x = two(5);
        chance(x, 0, 0, 1, 2);
        chance(x, 0, 25, 1, 2);
        chance(x, 0, 26, 0, 1);
        chance(x, 1, 20, 1, 2);
        chance(x, 1, 200, 0, 1);
        mean(x, 45, 2);
    }

    /** Cause 1 has 30 behind cause 0 (before 3, 0, 1), else 0: with odds of 3, 0.3 * 0.3. */
    private static void oneAheadOfAnother() {
        MotherBench x = Check.told("circuit days 1 law 0 odds 3;" + Check.plain(0, 30, 0, 30) + CAUSE + CAUSE);
        chance(x, 1, 0, 3, 10);
        chance(x, 1, 1, 9, 100);
        chance(x, 1, 30, 9, 100);
        chance(x, 1, 31, 0, 1);
        chance(x, 0, 0, 3, 10);
        chance(x, 0, 1, 0, 1);
        mean(x, 27, 10);
    }

    private static void edgesOfOdds() {
        MotherBench never = two(0);
        chance(never, 0, 0, 0, 1);
        mean(never, 0, 1);
        MotherBench always = two(10);
        chance(always, 0, 25, 1, 1);
        mean(always, 45, 1);
        mean(Check.told("circuit days 3 law 0 odds 5;"), 0, 1);
        MotherBench unheard = Check.told("circuit days 1 law 0 odds 5;cause weighs 0 signs 0 at 0;");
        chance(unheard, 0, 0, 0, 1);
        mean(unheard, 0, 1);
    }

    /** Eight causes of 70 each by odds of 9, and LAW 0: 504. By LAW 2 the mean is no whole number. */
    private static void greatest() {
        String eight = "cause weighs 30 signs 0 at 0;".repeat(8);
        mean(Check.told("circuit days 1 law 0 odds 9;" + Check.plain(40, 40, 40) + eight), 504, 1);
        // 70 * 0.9 * 8, and 2 more for each pair of which both come: 28 * 0.81 * 2.
        mean(Check.told("circuit days 1 law 2 odds 9;" + Check.plain(40, 40, 40) + eight), 13734, 25);
        // Cause 7 has 84 or more if all seven ahead of it come, and it: 0.9 to the eighth.
        chance(Check.told("circuit days 1 law 2 odds 9;" + Check.plain(40, 40, 40) + eight), 7, 84, 43046721, 100000000);
    }

    private static void appealsOfThoseNotBrought() {
        MotherBench x = Check.told("circuit days 2 law 0 odds 4;" + Check.plain(1, 2, 3, 14, 15, 16) + CAUSE);
        x.appeals(0, 1);
        chance(x, 0, 15, 2, 5);
        mean(x, 6, 1);
    }

    /** From seed 0 x is 12345, 1406932606, 654583775, 1449466924: draws of 0, 8, 8, 7. */
    private static void draws() {
        MotherBench x = two(5);
        CHECK.due("drawn(0, 0)", x.drawn(0, 0), 1);
        CHECK.due("drawn(0, 1)", x.drawn(0, 1), 25);
        // From seeds 1, 2, 3, 4 the first draws are 8, 8, 7, 7.
        CHECK.due("luck(0, 1, 0)", x.luck(0, 1, 0), 1);
        CHECK.due("luck(0, 5, 0)", x.luck(0, 5, 0), 1);
        CHECK.due("luck(1, 4, 0)", x.luck(1, 4, 0), 0);
        CHECK.due("luck(0, 1, 1)", x.luck(0, 1, 1), 0);
        MotherBench eight = Check.told("circuit days 1 law 0 odds 8;" + Check.plain(1, 2, 3) + CAUSE.repeat(4));
        CHECK.due("drawn(0, 0) by odds of 8", eight.drawn(0, 0), 9);
        CHECK.due("drawn(0, 1) by odds of 8", eight.drawn(0, 1), 4);
        CHECK.due("luck(1, 4, 0) by odds of 8", eight.luck(1, 4, 0), 2);
        MotherBench all = Check.told("circuit days 1 law 0 odds 10;" + Check.plain(1, 2, 3) + CAUSE + "cause weighs 0 signs 0 at 1;");
        CHECK.due("drawn of a cause of the last DAY", all.drawn(7, 0), 3);
        CHECK.due("luck of 20", all.luck(2000000000, 20, 0), 20);
        CHECK.due("luck of a cause of the last DAY", all.luck(2000000000, 20, 1), 0);
        MotherBench never = two(0);
        CHECK.due("drawn(2000000000, 0)", never.drawn(2000000000, 0), 0);
        CHECK.due("drawn(2000000000, 1)", never.drawn(2000000000, 1), 0);
        CHECK.due("luck by odds of 0", never.luck(0, 20, 0), 0);
    }

    private static void wrongInputs() {
        MotherBench x = two(5);
        int[][] chances = {{-1, 0, 0}, {2, 0, 0}, {0, -1, 0}, {0, 201, 0}, {0, 0, 2}, {0, 0, -1}};
        for (int[] c : chances) {
            CHECK.due("chance(" + c[0] + ", " + c[1] + ", " + c[2] + ")", x.chance(c[0], c[1], c[2]), -2);
        }
        CHECK.due("mean(2)", x.mean(2), -2);
        CHECK.due("mean(-1)", x.mean(-1), -2);
        CHECK.due("mean(0) without a CIRCUIT", new MotherBench().mean(0), -2);
        CHECK.due("drawn(-1, 0)", x.drawn(-1, 0), -2);
        CHECK.due("drawn(2000000001, 0)", x.drawn(2000000001, 0), -2);
        CHECK.due("drawn(0, 2)", x.drawn(0, 2), -2);
        CHECK.due("drawn(0, -1)", x.drawn(0, -1), -2);
        CHECK.due("drawn(0, 0) without a CIRCUIT", new MotherBench().drawn(0, 0), -2);
        int[][] lucks = {{-1, 1, 0}, {2000000001, 1, 0}, {0, 0, 0}, {0, 21, 0}, {0, 1, 2}, {0, 1, -1}};
        for (int[] l : lucks) {
            CHECK.due("luck(" + l[0] + ", " + l[1] + ", " + l[2] + ")", x.luck(l[0], l[1], l[2]), -2);
        }
    }
}
