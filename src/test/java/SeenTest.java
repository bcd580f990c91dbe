/** Promises 54 to 59: sentences seen, and what they leave open. */
public final class SeenTest {
    private static final Check CHECK = new Check();

    public static void main(String[] args) {
        oneMother();
        questions();
        widths();
        laws();
        actsToo();
        wrongInputs();
        CHECK.close();
    }

    private static MotherBench three() {
        return Check.told("circuit days 3 law 0 odds 5;" + Check.plain(10, 20, 30)
                + "cause weighs 5 signs 0 at 0;cause weighs 0 signs 0 at 1;cause weighs 0 signs 0 at 9;");
    }

    private static void seen(MotherBench x, int mother, int fits, int low, int high) {
        CHECK.due("fits(0, " + mother + ")", x.fits(0, mother), fits);
        CHECK.due("low(0, " + mother + ")", x.low(0, mother), low);
        CHECK.due("high(0, " + mother + ")", x.high(0, mother), high);
    }

    /** The middle of s + 5, 25 and 35 for mother 0, of 15, s + 5 and 35 for mother 1. */
    private static void oneMother() {
        MotherBench x = three();
        Check.row(x, 0, 3, 0, 25);
        seen(x, 0, 21, 0, 20);
        seen(x, 1, 1, 20, 20);
        seen(x, 2, 21, 20, 40);
        Check.row(x, 0, 3, 0, 28);
        seen(x, 0, 1, 23, 23);
        seen(x, 2, 0, -1, -1);
        Check.row(x, 0, 3, 0, 35);
        seen(x, 0, 11, 30, 40);
        Check.row(x, 0, 3, 0, -1);
        seen(x, 0, 0, -1, -1);
        Check.row(x, 0, 3, 2, -1);
        seen(x, 0, 41, 0, 40);
        Check.row(x, 0, 3);
        seen(x, 0, 41, 0, 40);
        Check.row(x, 0, 3, 0, 25, 1, 20, 0, 25, 2, -1);
        seen(x, 0, 21, 0, 20);
        Check.row(x, 0, 3, 0, 25, 1, 21);
        seen(x, 0, 0, -1, -1);
        Check.row(x, 0, 3, 0, 25, 0, 26);
        seen(x, 0, 0, -1, -1);
        CHECK.due("mother(0, 0) is as it was", x.mother(0, 0), 10);
    }

    /** Of 41 stricts of mother 0 cause 0 and 1 leave 21 at worst; by signs 8 cause 1 leaves fewer. */
    private static void questions() {
        MotherBench x = three();
        Check.row(x, 1, 2);
        CHECK.due("ask(1, 0), the first of several", x.ask(1, 0), 0);
        CHECK.due("leaves(1, 0)", x.leaves(1, 0), 21);
        Check.row(x, 1, 2, 0, 28);
        CHECK.due("ask(1, 0) where one is left", x.ask(1, 0), -1);
        CHECK.due("leaves(1, 0) where one is left", x.leaves(1, 0), 1);
        Check.row(x, 1, 2, 0, 25);
        CHECK.due("ask(1, 0) where none tells more", x.ask(1, 0), -1);
        CHECK.due("leaves(1, 0) where none tells more", x.leaves(1, 0), 21);
        Check.row(x, 1, 2, 0, 99);
        CHECK.due("ask(1, 0) where none is left", x.ask(1, 0), -1);
        CHECK.due("leaves(1, 0) where none is left", x.leaves(1, 0), 0);
        // Of cause 1 mother 1 finds 0 (20 - 20), mother 2 finds 30: mother 0 is the middle from 0 to 30,
        // 30 from there on (11 of them); cause 0 has 25 up to 20 (21 of them).
        MotherBench y = Check.told("circuit days 3 law 0 odds 5;mother strict 10 ways 0 0 0 0;mother strict 20 ways 0 0 0 20;"
                + "mother strict 30 ways 0 0 0 0;cause weighs 5 signs 0 at 0;cause weighs 0 signs 8 at 1;");
        Check.row(y, 1, 0);
        CHECK.due("ask(1, 0) of the better one", y.ask(1, 0), 1);
        CHECK.due("leaves(1, 0) of the better one", y.leaves(1, 0), 11);
        MotherBench none = Check.told("circuit days 3 law 0 odds 5;" + Check.plain(1));
        Check.row(none, 1, 0);
        CHECK.due("ask(1, 0) without causes", none.ask(1, 0), -1);
        CHECK.due("leaves(1, 0) without causes", none.leaves(1, 0), 41);
    }

    private static void widths() {
        MotherBench x = three();
        for (int width = 0; width < 4; width++) {
            Check.row(x, 0, width, 2, -1);
            CHECK.due("fits of -1 by width " + width, x.fits(0, 0), 41);
            Check.row(x, 0, width, 0, 256 + 25);
            CHECK.due("fits of 281 by width " + width, x.fits(0, 0), width == 0 ? 21 : -2);
            Check.row(x, 0, width, 0, 65536 + 25);
            CHECK.due("fits of 65561 by width " + width, x.fits(0, 0), width <= 1 ? 21 : -2);
            Check.row(x, 0, width, 0, 4294967296L + 25);
            CHECK.due("fits of 2^32 + 25 by width " + width, x.fits(0, 0), width <= 2 ? 21 : -2);
            Check.row(x, 0, width, 0, 200);
            CHECK.due("fits of 200 by width " + width, x.fits(0, 0), width == 0 ? -2 : 0);
        }
    }

    /** Cause 1 has 20 by LAWS 0, 1, 3, 22 by LAW 2. */
    private static void laws() {
        MotherBench x = Check.told("circuit days 1 law 3 odds 0;" + Check.plain(10, 20, 30)
                + "cause weighs 0 signs 0 at 0;cause weighs 0 signs 0 at 0;cause weighs 0 signs 0 at 1;");
        Check.row(x, 2, 3, 1, 20);
        CHECK.due("laws(2) of 20", x.laws(2), 11);
        Check.row(x, 2, 3, 1, 22);
        CHECK.due("laws(2) of 22", x.laws(2), 4);
        Check.row(x, 2, 3, 1, 21);
        CHECK.due("laws(2) of 21", x.laws(2), 0);
        Check.row(x, 2, 3);
        CHECK.due("laws(2) of an empty row", x.laws(2), 15);
        Check.row(x, 2, 3, 2, -1, 0, 20);
        CHECK.due("laws(2) of one not heard", x.laws(2), 15);
        CHECK.due("count(1) is as it was", x.count(1), 3);
    }

    private static void actsToo() {
        MotherBench x = Check.told("circuit days 1 law 0 odds 0;" + Check.plain(1, 2, 3, 14, 15, 16) + "cause weighs 0 signs 0 at 0;");
        Check.row(x, 0, 3, 0, 15);
        CHECK.due("fits(0, 3) ahead of the appeal", x.fits(0, 3), 0);
        x.appeals(0, 0);
        CHECK.due("fits(0, 3) behind the appeal", x.fits(0, 3), 16);
        CHECK.due("high(0, 3) behind the appeal", x.high(0, 3), 15);
    }

    private static void wrongInputs() {
        MotherBench x = three();
        Check.row(x, 1, 3, 0, 25);
        int[][] none = {{-1, 0, -2}, {4, 0, -2}, {1, -1, -2}, {1, 3, -2}, {0, 3, -2}, {0, 0, -6}};
        for (int[] n : none) {
            CHECK.due("fits(" + n[0] + ", " + n[1] + ")", x.fits(n[0], n[1]), n[2]);
            CHECK.due("low(" + n[0] + ", " + n[1] + ")", x.low(n[0], n[1]), n[2]);
            CHECK.due("high(" + n[0] + ", " + n[1] + ")", x.high(n[0], n[1]), n[2]);
            CHECK.due("ask(" + n[0] + ", " + n[1] + ")", x.ask(n[0], n[1]), n[2]);
            CHECK.due("leaves(" + n[0] + ", " + n[1] + ")", x.leaves(n[0], n[1]), n[2]);
        }
        CHECK.due("laws(-1)", x.laws(-1), -2);
        CHECK.due("laws(4)", x.laws(4), -2);
        CHECK.due("laws(0)", x.laws(0), -6);
        long[][] rows = {{0}, {0, 25, 0}, {-1, 25}, {3, 25}, {0, -2}, {0, 201}, {0, 25, 0, 201}, {0, 25, 3, 0}};
        for (long[] row : rows) {
            Check.row(x, 1, 3, row);
            String name = java.util.Arrays.toString(row);
            CHECK.due("fits of " + name, x.fits(1, 0), -2);
            CHECK.due("low of " + name, x.low(1, 0), -2);
            CHECK.due("high of " + name, x.high(1, 0), -2);
            CHECK.due("ask of " + name, x.ask(1, 0), -2);
            CHECK.due("leaves of " + name, x.leaves(1, 0), -2);
            CHECK.due("laws of " + name, x.laws(1), -2);
        }
        MotherBench empty = new MotherBench();
        CHECK.due("laws(0) without a CIRCUIT", empty.laws(0), -2);
        CHECK.due("fits(0, 0) without a CIRCUIT", empty.fits(0, 0), -2);
        empty.row(0, 0, 0);
        CHECK.due("laws of a row without a CIRCUIT", empty.laws(0), -2);
    }
}
