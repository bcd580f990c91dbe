/** Promises 78 to 80: the edges that their sentences name, each by its own words; laws() shows what a row holds. */
public final class EdgesOfRowsTest {
    private static final Sentences DOC = new Sentences();

    public static void main(String[] args) {
        slots();
        lengths();
        inPlaceOfAnother();
        staysBelowZero();
        cutToWidth();
        numbersOfARow();
        pastesAtTheEdges();
        pastesOfItsOwn();
        pastesRefused();
        widthsOfPastes();
        DOC.close("I", 78, 79, 80);
    }

    /** Cause c has a sentence of c, but for cause 7, which is not HEARD. */
    private static MotherBench reader() {
        StringBuilder text = new StringBuilder("circuit days 1 law 0 odds 0;" + Check.plain(0, 0, 0));
        for (int c = 0; c < 8; c++) {
            text.append("cause weighs ").append(c).append(" signs 1 at ").append(c == 7 ? 1 : 0).append(';');
        }
        return Check.told(text.toString());
    }

    /** Whether a SLOT's row is just these numbers, as far as laws() of pieces of two can show. */
    private static void holds(MotherBench x, int slot, int width, long... numbers) {
        int spare = 3;
        for (int i = 0; i < numbers.length; i++) {
            x.row(spare, width, 2);
            DOC.due("a piece of SLOT " + slot, x.paste(slot, i, spare, 0, 1), 0);
            x.write(spare, 1, numbers[i]);
            DOC.due("number " + i + " of SLOT " + slot + " is " + numbers[i], x.laws(spare), 15);
        }
        DOC.due("SLOT " + slot + " has no more", x.write(slot, numbers.length, 0), -7);
    }

    private static void slots() {
        DOC.says("I", "SLOTS 0 .. 3 have rows of numbers of 1, 2, 4 or 8 bytes (WIDTH 0 .. 3), at most 60, or nothing");
        MotherBench x = reader();
        for (int slot = 0; slot < 4; slot++) {
            DOC.due("laws(" + slot + ") of nothing", x.laws(slot), -6);
            DOC.due("row(" + slot + ", " + slot + ", 60)", x.row(slot, slot, 60), 0);
            DOC.due("SLOTS that have a row", x.count(9), slot + 1);
            DOC.due("the last number", x.write(slot, 59, 0), 0);
            DOC.due("none behind it", x.write(slot, 60, 0), -7);
        }
        DOC.due("row(-1, 0, 0)", x.row(-1, 0, 0), -2);
        DOC.due("row(4, 0, 0)", x.row(4, 0, 0), -2);
        DOC.due("row(0, -1, 0)", x.row(0, -1, 0), -2);
        DOC.due("row(0, 4, 0)", x.row(0, 4, 0), -2);
        // Rows are the object's, not the circuit's.
        x.circuit();
        DOC.due("SLOTS without a CIRCUIT", x.count(9), 4);
    }

    private static void lengths() {
        DOC.says(78, "n is above 60");
        MotherBench x = reader();
        for (int n = 0; n <= 60; n++) {
            DOC.due("row(0, 0, " + n + ")", x.row(0, 0, n), 0);
            DOC.due("number " + (n - 1), x.write(0, n - 1, 0), n == 0 ? -7 : 0);
            DOC.due("number " + n, x.write(0, n, 0), -7);
        }
        DOC.due("row(0, 0, 61)", x.row(0, 0, 61), -2);
        DOC.due("row(0, 0, MAX)", x.row(0, 0, Integer.MAX_VALUE), -2);
        DOC.due("the row of 60 stays", x.write(0, 59, 0), 0);
        DOC.due("an empty row is a row", x.row(1, 0, 0), 0);
        DOC.due("SLOTS that have one", x.count(9), 2);
        DOC.due("laws of an empty row", x.laws(1), 15);
    }

    private static void inPlaceOfAnother() {
        DOC.says(78, "A SLOT (0 .. 3) has a row of n numbers of a WIDTH, all 0 (in place of another one): 0");
        MotherBench x = reader();
        Check.row(x, 0, 3, 5, 5, 6, 6);
        Check.row(x, 1, 3, 4, 4);
        x.row(0, 3, 4);
        holds(x, 0, 3, 0, 0, 0, 0);
        holds(x, 1, 3, 4, 4);
        Check.row(x, 0, 3, 5, 5, 6, 6);
        x.row(0, 3, 2);
        holds(x, 0, 3, 0, 0);
        x.row(0, 3, 4);
        holds(x, 0, 3, 0, 0, 0, 0);
        DOC.due("SLOTS that have a row", x.count(9), 3);
    }

    private static void staysBelowZero() {
        DOC.says(78, "-3, and the SLOT stays: n is below 0");
        MotherBench x = reader();
        DOC.due("row(0, 0, -1) of nothing", x.row(0, 0, -1), -3);
        DOC.due("it has nothing", x.laws(0), -6);
        Check.row(x, 0, 3, 5, 5);
        DOC.due("row(0, 0, -1)", x.row(0, 0, -1), -3);
        DOC.due("row(0, 0, MIN)", x.row(0, 0, Integer.MIN_VALUE), -3);
        holds(x, 0, 3, 5, 5);
        DOC.due("row(4, 0, -1)", x.row(4, 0, -1), -2);
        DOC.due("row(0, 4, -1)", x.row(0, 4, -1), -2);
        DOC.due("row(0, 0, 61)", x.row(0, 0, 61), -2);
        holds(x, 0, 3, 5, 5);
    }

    /** By WIDTHS of 8, 16, 32, 64 bits: what is just -1, 0 and 1 more than the greatest wraps round. */
    private static void cutToWidth() {
        DOC.says(79, "Number i of the SLOT's row is v, cut to its WIDTH: 0");
        MotherBench x = reader();
        for (int width = 0; width < 4; width++) {
            int bits = 8 << width;
            long whole = bits == 64 ? 0 : 1L << bits;
            long half = 1L << bits - 1;
            long[] values = {whole - 1, whole, whole + 3, 3 - whole, -1, half, half - 1, -half, -half - 1};
            int[] sentence = {-1, 0, 3, 3, -1, -2, -2, -2, -2};
            sentence[6] = width == 0 ? 127 : -2;
            sentence[8] = width == 0 ? 127 : -2;
            for (int i = 0; i < values.length; i++) {
                String call = "write of " + values[i] + " by WIDTH " + width;
                x.row(0, width, 2);
                x.write(0, 0, 7);
                DOC.due(call, x.write(0, 1, values[i]), 0);
                DOC.due(call + ", -1", x.laws(0), sentence[i] == -2 ? -2 : sentence[i] == -1 ? 15 : 0);
                x.write(0, 0, 0);
                DOC.due(call + ", 0", x.laws(0), sentence[i] == -2 ? -2 : sentence[i] == 0 ? 15 : 0);
                x.write(0, 0, 3);
                DOC.due(call + ", 3", x.laws(0), sentence[i] == -2 ? -2 : sentence[i] == 3 ? 15 : 0);
            }
        }
        // A cause's number is cut likewise.
        long[][] causes = {{0, 256 + 5}, {1, 65536 + 5}, {2, 4294967296L + 5}, {3, 5}, {0, 5 - 256}, {1, 5 - 65536}, {2, 5 - 4294967296L}};
        for (long[] c : causes) {
            x.row(0, (int) c[0], 2);
            x.write(0, 0, c[1]);
            x.write(0, 1, 5);
            DOC.due("a cause of " + c[1] + " by WIDTH " + c[0], x.laws(0), 15);
            x.row(0, 3, 2);
            x.write(0, 0, c[1]);
            x.write(0, 1, 5);
            DOC.due("a cause of " + c[1] + " by 8 bytes", x.laws(0), c[1] == 5 ? 15 : -2);
        }
    }

    private static void numbersOfARow() {
        DOC.says(79, "-2: there is no such SLOT; -6: it has nothing; -7: there is no such number");
        MotherBench x = reader();
        x.row(0, 0, 2);
        x.row(1, 0, 60);
        DOC.due("write(0, 1, 0)", x.write(0, 1, 0), 0);
        DOC.due("write(0, 2, 9)", x.write(0, 2, 9), -7);
        DOC.due("write(0, -1, 9)", x.write(0, -1, 9), -7);
        DOC.due("write(0, 60, 9), the next SLOT's first", x.write(0, 60, 9), -7);
        DOC.due("write(1, -1, 9), the last of the SLOT ahead", x.write(1, -1, 9), -7);
        holds(x, 0, 0, 0, 0);
        DOC.due("laws(1)", x.laws(1), 15);
        DOC.due("write(2, 0, 9)", x.write(2, 0, 9), -6);
        DOC.due("write(2, -1, 9)", x.write(2, -1, 9), -6);
        DOC.due("write(4, 0, 9)", x.write(4, 0, 9), -2);
        DOC.due("write(-1, 0, 9)", x.write(-1, 0, 9), -2);
    }

    private static void pastesAtTheEdges() {
        DOC.says(80, "So many numbers of a SLOT's row, from one on, are put to another one's (or its own), from one on, as they were: 0");
        MotherBench x = reader();
        Check.row(x, 0, 2, 1, 2, 3, 4);
        Check.row(x, 1, 2, 5, 5, 5, 5, 5);
        DOC.due("paste of none", x.paste(0, 0, 1, 0, 0), 0);
        DOC.due("paste of none at the ends", x.paste(0, 4, 1, 5, 0), 0);
        holds(x, 1, 2, 5, 5, 5, 5, 5);
        DOC.due("paste of one, the last", x.paste(0, 3, 1, 4, 1), 0);
        holds(x, 1, 2, 5, 5, 5, 5, 4);
        DOC.due("paste of all", x.paste(0, 0, 1, 1, 4), 0);
        holds(x, 1, 2, 5, 1, 2, 3, 4);
        holds(x, 0, 2, 1, 2, 3, 4);
        MotherBench full = reader();
        full.row(0, 0, 60);
        full.row(1, 0, 60);
        full.write(0, 0, 6);
        full.write(0, 59, 6);
        DOC.due("paste of sixty", full.paste(0, 0, 1, 0, 60), 0);
        DOC.due("paste of sixty to itself", full.paste(1, 0, 1, 0, 60), 0);
        full.row(0, 0, 2);
        full.paste(1, 59, 0, 0, 1);
        full.paste(1, 0, 0, 1, 1);
        holds(full, 0, 0, 6, 6);
        MotherBench empty = reader();
        empty.row(0, 0, 0);
        DOC.due("paste of none of an empty row", empty.paste(0, 0, 0, 0, 0), 0);
        DOC.due("paste of one of an empty row", empty.paste(0, 0, 0, 0, 1), -7);
    }

    private static void pastesOfItsOwn() {
        DOC.says(80, "as they were");
        for (int width = 0; width < 4; width++) {
            MotherBench x = reader();
            Check.row(x, 0, width, 1, 2, 3, 4, 5);
            DOC.due("paste forwards", x.paste(0, 0, 0, 1, 4), 0);
            holds(x, 0, width, 1, 1, 2, 3, 4);
            Check.row(x, 0, width, 1, 2, 3, 4, 5);
            DOC.due("paste backwards", x.paste(0, 1, 0, 0, 4), 0);
            holds(x, 0, width, 2, 3, 4, 5, 5);
            DOC.due("paste where it is", x.paste(0, 1, 0, 1, 3), 0);
            holds(x, 0, width, 2, 3, 4, 5, 5);
        }
    }

    private static void pastesRefused() {
        DOC.says(80, "-7, and nothing happens: some are beyond their rows, or a place or n is below 0");
        int max = Integer.MAX_VALUE;
        int min = Integer.MIN_VALUE;
        int[][] wrong = {{0, 0, 5}, {1, 0, 4}, {4, 0, 1}, {5, 0, 0}, {0, 3, 1}, {0, 2, 2}, {0, 4, 0}, {0, 0, 4}, {-1, 0, 1}, {0, -1, 1},
            {0, 0, -1}, {-1, -1, -1}, {-1, 0, 0}, {0, -1, 0}, {max, 0, 1}, {0, max, 1}, {0, 0, max}, {max, max, max}, {1, 1, max},
            {min, 0, 1}, {0, min, 1}, {0, 0, min}, {min, min, min}, {2, 0, min}};
        for (int[] n : wrong) {
            MotherBench x = reader();
            Check.row(x, 0, 1, 1, 2, 3, 4);
            Check.row(x, 1, 1, 5, 5, 6);
            DOC.due("paste(0, " + n[0] + ", 1, " + n[1] + ", " + n[2] + ")", x.paste(0, n[0], 1, n[1], n[2]), -7);
            holds(x, 0, 1, 1, 2, 3, 4);
            holds(x, 1, 1, 5, 5, 6);
        }
    }

    private static void widthsOfPastes() {
        DOC.says(80, "-2: there is no such SLOT; -6: one has nothing; -8: they are not of one WIDTH");
        for (int one = 0; one < 4; one++) {
            for (int other = 0; other < 4; other++) {
                MotherBench x = reader();
                Check.row(x, 0, one, 1, 2);
                Check.row(x, 1, other, 5, 6);
                DOC.due("paste of WIDTHS " + one + ", " + other, x.paste(0, 0, 1, 0, 2), one == other ? 0 : -8);
                DOC.due("paste of none of WIDTHS " + one + ", " + other, x.paste(0, 0, 1, 0, 0), one == other ? 0 : -8);
                DOC.due("paste beyond of WIDTHS " + one + ", " + other, x.paste(0, 0, 1, 0, 3), one == other ? -7 : -8);
                DOC.due("paste to nothing", x.paste(0, 0, 2, 0, 9), -6);
                DOC.due("paste of nothing", x.paste(2, 0, 0, 0, 9), -6);
                DOC.due("paste of nothing to nothing", x.paste(2, -1, 3, -1, -1), -6);
                DOC.due("paste of nothing to no SLOT", x.paste(2, 0, 4, 0, 0), -2);
                DOC.due("paste of no SLOT", x.paste(-1, 0, 0, 0, 0), -2);
                if (one == other) {
                    holds(x, 1, other, 1, 2);
                } else {
                    holds(x, 1, other, 5, 6);
                }
            }
        }
    }
}
