/** Promises 78 to 80: rows of the slots, which sentences seen show from outside. */
public final class RowTest {
    private static final Check CHECK = new Check();

    public static void main(String[] args) {
        rows();
        writes();
        pastes();
        pastesOfItsOwn();
        wrongPastes();
        CHECK.close();
    }

    /** Cause c has a sentence of c by every law, so that laws() shows what a row holds. */
    private static MotherBench reader() {
        StringBuilder text = new StringBuilder("circuit days 1 law 0 odds 0;" + Check.plain(0, 0, 0));
        for (int c = 0; c < 8; c++) {
            text.append("cause weighs ").append(c).append(" signs 1 at 0;");
        }
        return Check.told(text.toString());
    }

    private static void tells(String call, MotherBench x, int slot, boolean itIsSo) {
        CHECK.due(call, x.laws(slot), itIsSo ? 15 : 0);
    }

    private static void rows() {
        MotherBench x = reader();
        CHECK.due("row(0, 0, 0)", x.row(0, 0, 0), 0);
        CHECK.due("row(3, 3, 60)", x.row(3, 3, 60), 0);
        CHECK.due("count(9)", x.count(9), 2);
        int[][] none = {{-1, 0, 1}, {4, 0, 1}, {0, -1, 1}, {0, 4, 1}, {0, 0, 61}, {4, 0, -1}, {0, 4, -1}};
        for (int[] n : none) {
            CHECK.due("row(" + n[0] + ", " + n[1] + ", " + n[2] + ")", x.row(n[0], n[1], n[2]), -2);
        }
        Check.row(x, 1, 2, 3, 3);
        tells("a row", x, 1, true);
        CHECK.due("row(1, 0, -1)", x.row(1, 0, -1), -3);
        tells("the SLOT stays", x, 1, true);
        CHECK.due("row(2, 0, -1)", x.row(2, 0, -1), -3);
        CHECK.due("the SLOT has nothing still", x.laws(2), -6);
        x.write(1, 1, 5);
        tells("another sentence", x, 1, false);
        CHECK.due("row(1, 2, 2)", x.row(1, 2, 2), 0);
        tells("all 0 again", x, 1, true);
        CHECK.due("count(9)", x.count(9), 3);
    }

    private static void writes() {
        MotherBench x = reader();
        CHECK.due("write(0, 0, 1) of nothing", x.write(0, 0, 1), -6);
        CHECK.due("write(-1, 0, 1)", x.write(-1, 0, 1), -2);
        CHECK.due("write(4, 0, 1)", x.write(4, 0, 1), -2);
        x.row(0, 1, 2);
        CHECK.due("write(0, -1, 1)", x.write(0, -1, 1), -7);
        CHECK.due("write(0, 2, 1)", x.write(0, 2, 1), -7);
        CHECK.due("write(0, 0, 65538)", x.write(0, 0, 65538), 0);
        CHECK.due("write(0, 1, 2 - 2^40)", x.write(0, 1, 2 - (1L << 40)), 0);
        tells("cut to two bytes", x, 0, true);
        x.write(0, 1, 65535 + 65536);
        tells("cut to -1", x, 0, false);
        x.row(0, 3, 2);
        x.write(0, 1, Long.MIN_VALUE);
        CHECK.due("no such sentence", x.laws(0), -2);
    }

    private static void pastes() {
        MotherBench x = reader();
        Check.row(x, 0, 2, 9, 1, 1, 2, 2, 9);
        Check.row(x, 1, 2, 7, 7, 7, 8, 6, 7);
        CHECK.due("paste(0, 1, 1, 2, 4)", x.paste(0, 1, 1, 2, 4), 0);
        tells("7 7 1 1 2 2", x, 1, true);
        x.write(1, 5, 3);
        tells("the last was pasted", x, 1, false);
        CHECK.due("laws(0): the other is as it was", x.laws(0), -2);
        CHECK.due("paste of none", x.paste(0, 6, 1, 6, 0), 0);
        tells("it is as it was", x, 1, false);
    }

    /** Overlapping: as they were, forwards and backwards. */
    private static void pastesOfItsOwn() {
        MotherBench x = reader();
        Check.row(x, 0, 0, 1, 1, 2, 2, 9, 9);
        CHECK.due("paste(0, 0, 0, 2, 4)", x.paste(0, 0, 0, 2, 4), 0);
        x.write(0, 2, 0);
        x.write(0, 3, 0);
        x.write(0, 0, 3);
        x.write(0, 1, 3);
        tells("3 3 0 0 2 2", x, 0, true);
        x.write(0, 5, 4);
        tells("3 3 0 0 2 4", x, 0, false);
        Check.row(x, 0, 0, 9, 9, 2, 2, 3, 3);
        CHECK.due("paste(0, 2, 0, 1, 4)", x.paste(0, 2, 0, 1, 4), 0);
        x.write(0, 0, 2);
        x.write(0, 2, 4);
        x.write(0, 3, 4);
        tells("2 2 4 4 3 3", x, 0, true);
    }

    private static void wrongPastes() {
        MotherBench x = reader();
        x.row(0, 2, 4);
        x.row(1, 2, 3);
        x.row(2, 1, 4);
        int[][] none = {{-1, 0, 0, 0, 0, -2}, {0, 0, 4, 0, 0, -2}, {3, 0, 4, 0, 0, -2}, {0, 0, 3, 0, 0, -6}, {3, 0, 0, 0, 0, -6},
            {3, 0, 3, 0, -1, -6}, {0, 0, 2, 0, 0, -8}, {0, -1, 2, 0, 9, -8}, {0, -1, 1, 0, 1, -7}, {0, 0, 1, -1, 1, -7},
            {0, 0, 1, 0, -1, -7}, {0, 0, 1, 0, 4, -7}, {0, 2, 1, 0, 3, -7}, {0, 0, 1, 1, 3, -7}, {0, 5, 1, 0, 0, -7},
            {0, 0, 1, 4, 0, -7}, {0, 2147483647, 1, 0, 2147483647, -7}, {0, 4, 1, 3, 0, 0}, {0, 1, 1, 0, 3, 0}};
        for (int[] n : none) {
            CHECK.due("paste" + java.util.Arrays.toString(n), x.paste(n[0], n[1], n[2], n[3], n[4]), n[5]);
        }
        Check.row(x, 0, 2, 5, 6, 5, 6);
        Check.row(x, 1, 2, 3, 3);
        x.paste(0, 0, 1, 0, 3);
        tells("nothing happens", x, 1, true);
    }
}
