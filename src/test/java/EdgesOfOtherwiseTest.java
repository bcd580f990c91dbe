/** Terms V to VII and promises 43 to 65: the edges that their sentences name, each by its own words. */
public final class EdgesOfOtherwiseTest {
    private static final Sentences DOC = new Sentences();
    private static final String ONE_DAY = "circuit days 1 law 0 odds 0;";
    private static final String CAUSE = cause(0, 0, 0);

    public static void main(String[] args) {
        setsOfThree();
        alone();
        mildAndHarsh();
        noSuchSet();
        kind();
        pleas();
        pleasOfTheLatest();
        when();
        blame();
        rowsOfPairs();
        stricts();
        questions();
        laws();
        worth();
        shares();
        kneeling();
        atRest();
        DOC.close("V", "VI", "VII", 43, 44, 45, 46, 47, 48, 49, 50, 51, 52, 53, 54, 55, 56, 57, 58, 59, 60, 61, 62, 63, 64, 65);
    }

    private static String cause(int weighs, int signs, int at) {
        return "cause weighs " + weighs + " signs " + signs + " at " + at + ";";
    }

    private static String mother(int strict, int... ways) {
        return "mother strict " + strict + " ways " + ways[0] + " " + ways[1] + " " + ways[2] + " " + ways[3] + ";";
    }

    // ---- sets of three ----

    private static void setsOfThree() {
        DOC.says(43, "How many sets of three MOTHERS there are, none KIN to another");
        int[] sets = {0, 0, 0, 1, 4, 10, 20, 35};
        for (int n = 0; n <= 7; n++) {
            DOC.due("benches() of " + n, Check.told(ONE_DAY + Check.plain(new int[n])).benches(), sets[n]);
        }
        String three = Check.plain(1, 2, 3);
        DOC.due("benches() of the first two kin", Check.told(ONE_DAY + three + "kin 0 1;").benches(), 0);
        DOC.due("benches() of the outer two kin", Check.told(ONE_DAY + three + "kin 2 0;").benches(), 0);
        DOC.due("benches() of the last two kin", Check.told(ONE_DAY + three + "kin 1 2;").benches(), 0);
        DOC.due("benches() of four, two kin", Check.told(ONE_DAY + Check.plain(1, 2, 3, 4) + "kin 1 2;").benches(), 2);
        // Of 35 sets the eight pairs of kin leave out 5 each, but for those counted twice.
        DOC.due("benches() of seven, one kin to all", Check.told(ONE_DAY + Check.plain(1, 2, 3, 4, 5, 6, 7)
                + "kin 0 1;kin 0 2;kin 0 3;kin 0 4;kin 0 5;kin 0 6;").benches(), 20);
    }

    private static void alone() {
        DOC.says(44, "what a MOTHER, as strict as told, FINDS of a CAUSE");
        MotherBench x = Check.told("circuit days 1 law 2 odds 0;" + Check.plain(4, 4, 4) + CAUSE + CAUSE);
        DOC.due("found(1, 0) of one who got stricter", x.found(1, 0), 6);
        DOC.due("finds(0, 1)", x.finds(0, 1), 4);
        MotherBench y = Check.told(ONE_DAY + mother(0, 20, 20, 20, 20) + mother(40, 20, 20, 20, 20) + mother(20, 20, 0, 0, 0)
                + cause(0, 15, 13) + cause(30, 0, 13) + cause(1, 1, 13));
        DOC.due("finds(0, 0) of -80", y.finds(0, 0), 0);
        DOC.due("finds(1, 1) of 70", y.finds(1, 1), 70);
        DOC.due("finds(2, 2) of 1", y.finds(2, 2), 1);
        DOC.due("finds(0, 2) of -19", y.finds(0, 2), 0);
    }

    private static void mildAndHarsh() {
        MotherBench x = Check.told(ONE_DAY + Check.plain(1, 2, 3, 4) + CAUSE);
        DOC.says(45, "of all such sets of three, as strict as told, the least middle of what they FIND of a CAUSE");
        DOC.due("mild(0)", x.mild(0), 2);
        DOC.says(46, "That set, the least (as bits) of several");
        DOC.due("milds(0) of 7, 11", x.milds(0), 7);
        DOC.says(47, "the greatest middle, likewise");
        DOC.due("harsh(0)", x.harsh(0), 3);
        DOC.says(48, "That set, the least of several");
        DOC.due("harshes(0) of 13, 14", x.harshes(0), 13);
        MotherBench alike = Check.told(ONE_DAY + Check.plain(5, 5, 5, 5, 5, 5, 5) + CAUSE);
        DOC.due("harshes(0) of 35 alike", alike.harshes(0), 7);
        DOC.says(46, "That set, the least (as bits) of several");
        DOC.due("milds(0) of 35 alike", alike.milds(0), 7);
        MotherBench last = Check.told(ONE_DAY + Check.plain(9, 9, 9, 9, 1, 1, 9) + CAUSE);
        DOC.due("milds(0) of 49 and more: the two of 1 and 0", last.milds(0), 49);
        MotherBench zero = Check.told(ONE_DAY + Check.plain(0, 0, 0) + CAUSE);
        DOC.says(45, "the least middle");
        DOC.due("mild(0) of 0", zero.mild(0), 0);
        DOC.says(47, "the greatest middle");
        DOC.due("harsh(0) of 0", zero.harsh(0), 0);
        DOC.says(48, "That set");
        DOC.due("harshes(0) of 0", zero.harshes(0), 7);
    }

    private static void noSuchSet() {
        String[] texts = {"", Check.plain(1), Check.plain(1, 2), Check.plain(1, 2, 3) + "kin 0 1;"};
        for (String text : texts) {
            MotherBench x = Check.told(ONE_DAY + text + CAUSE);
            DOC.says(45, "NONE: there is no such set; -2: there is none such");
            DOC.due("mild(0)", x.mild(0), -1);
            DOC.due("mild(1)", x.mild(1), -2);
            DOC.says(46, "NONE, -2 likewise");
            DOC.due("milds(0)", x.milds(0), -1);
            DOC.due("milds(1)", x.milds(1), -2);
            DOC.says(47, "likewise");
            DOC.due("harsh(0)", x.harsh(0), -1);
            DOC.due("harsh(1)", x.harsh(1), -2);
            DOC.says(48, "NONE, -2 likewise");
            DOC.due("harshes(0)", x.harshes(0), -1);
            DOC.due("harshes(1)", x.harshes(1), -2);
            DOC.says(49, "NONE: none; -2: there is none such");
            DOC.due("kind(0)", x.kind(0), -1);
            DOC.due("kind(1)", x.kind(1), -2);
        }
    }

    private static void kind() {
        DOC.says(49, "The MOTHER with whom on it most of all such sets have a middle of 0 (of a CAUSE, as told), the first of several, if any");
        // Of 0, 0, 0, 9: all four sets have a middle of 0; each of the three is on three of them, the last too.
        DOC.due("kind of 0 0 0 9", Check.told(ONE_DAY + Check.plain(0, 0, 0, 9) + CAUSE).kind(0), 0);
        // Of 9, 0, 0, 9, 9: a set with 1 and 2, three of them.
        DOC.due("kind of 9 0 0 9 9", Check.told(ONE_DAY + Check.plain(9, 0, 0, 9, 9) + CAUSE).kind(0), 1);
        // Of 9, 0, 0, 0 with 1 and 2 kin: {0, 1, 3}, {0, 2, 3}: the strict one is on both, as is 3.
        DOC.due("kind, who finds 9 herself", Check.told(ONE_DAY + Check.plain(9, 0, 0, 0) + "kin 1 2;" + CAUSE).kind(0), 0);
        DOC.due("kind of 0 1 1", Check.told(ONE_DAY + Check.plain(0, 1, 1) + CAUSE).kind(0), -1);
        DOC.due("kind of 0 0 1", Check.told(ONE_DAY + Check.plain(0, 0, 1) + CAUSE).kind(0), 0);
        DOC.due("kind by signs", Check.told(ONE_DAY + mother(5, 5, 0, 0, 0).repeat(3) + cause(0, 1, 13)).kind(0), 0);
        DOC.due("kind by signs that are not enough", Check.told(ONE_DAY + mother(5, 4, 0, 0, 0).repeat(3) + cause(0, 1, 13)).kind(0), -1);
    }

    // ---- one thing otherwise ----

    private static void pleas() {
        DOC.says(50, "the fewest SIGNS (bits of 0 .. 15 in place of those told) by which SENTENCE of a CAUSE is least");
        MotherBench none = Check.told(ONE_DAY + Check.plain(5, 5, 5) + cause(0, 15, 0));
        DOC.due("plea of no use", none.plea(0), 0);
        MotherBench all = Check.told(ONE_DAY + mother(40, 1, 1, 1, 1).repeat(3) + cause(0, 0, 0));
        DOC.due("plea of all", all.plea(0), 4);
        MotherBench two = Check.told(ONE_DAY + mother(10, 4, 5, 5, 9).repeat(3) + cause(0, 0, 0));
        DOC.due("plea of two", two.plea(0), 2);
        DOC.says(51, "The least set of so few, as bits");
        DOC.due("pleas of no use", none.pleas(0), 0);
        DOC.due("pleas of all", all.pleas(0), 15);
        // 2 + 4 (5 and 5), 1 + 8, 2 + 8, 4 + 8 bring 10 to 0, 1 + 2 does not: 6 is the least.
        DOC.due("pleas of two", two.pleas(0), 6);
        MotherBench one = Check.told(ONE_DAY + mother(5, 4, 4, 4, 5).repeat(3) + cause(0, 3, 0));
        DOC.due("pleas of one, greater as bits than two", one.pleas(0), 8);
        DOC.says(50, "NONE: it is not HEARD then, whatever; -2 likewise");
        MotherBench unheard = Check.told(ONE_DAY + Check.plain(5, 5) + CAUSE);
        DOC.due("plea(0)", unheard.plea(0), -1);
        DOC.due("plea(1)", unheard.plea(1), -2);
        DOC.says(51, "NONE, -2 likewise");
        DOC.due("pleas(0)", unheard.pleas(0), -1);
        DOC.due("pleas(1)", unheard.pleas(1), -2);
        DOC.due("pleas of a cause of the last DAY", Check.told(ONE_DAY + Check.plain(5, 5, 5) + cause(0, 0, 1)).pleas(0), -1);
    }

    /** 0, 1, 2 mind the first sign alone, 3, 4, 5, who hear the appeal, the second alone. */
    private static void pleasOfTheLatest() {
        DOC.says(50, "in the latest HEARING, all else (APPEALS, too) as now");
        MotherBench x = Check.told("circuit days 2 law 0 odds 0;" + mother(9, 9, 0, 0, 0).repeat(3) + mother(9, 0, 5, 0, 0).repeat(3) + CAUSE);
        DOC.due("pleas(0)", x.pleas(0), 1);
        x.appeals(0, 1);
        DOC.due("pleas(0) with an appeal", x.pleas(0), 2);
        x.misses(3, 1);
        DOC.due("pleas(0) with an appeal in vain", x.pleas(0), 1);
    }

    private static void when() {
        DOC.says(52, "The DAY (0 .. ahead of the last) in place of its own");
        String three = Check.plain(5, 5, 5);
        DOC.due("when of the last DAY", Check.told("circuit days 3 law 0 odds 0;" + three + cause(0, 0, 3)).when(0), 0);
        DOC.due("when of DAY 13", Check.told("circuit days 3 law 0 odds 0;" + three + cause(0, 0, 13)).when(0), 0);
        MotherBench last = Check.told("circuit days 3 law 0 odds 0;" + three + cause(0, 0, 0));
        last.misses(0, 0);
        last.misses(0, 1);
        DOC.due("when on the DAY ahead of the last alone", last.when(0), 2);
        DOC.says(52, "the least SENTENCE of its latest HEARING (APPEALS as now), the first of several");
        // On DAY 0 it is before 0, 1, 2: 9; on DAY 1, behind cause 1, before 3, 4, 5: 2; on DAY 2 and 3 too.
        MotherBench later = Check.told("circuit days 4 law 0 odds 0;" + Check.plain(9, 9, 9, 2, 2, 2) + cause(0, 0, 0) + cause(0, 0, 0));
        DOC.due("when(0), a later DAY", later.when(0), 1);
        DOC.due("when(1), behind cause 0 anyway", later.when(1), 0);
        // By LAW 2 of cause 1 on DAY 1 the mothers get stricter: 4, 4, 6, 6.
        MotherBench early = Check.told("circuit days 4 law 2 odds 0;" + Check.plain(4, 4, 4) + cause(0, 0, 3) + cause(0, 0, 1));
        DOC.due("when(0) of 4, 4, 6, 6", early.when(0), 0);
        // Ahead of an appeal of DAY 1 it has 2 (before 3, 4, 5), on DAY 2 it has 9: the appeal comes to nothing.
        MotherBench x = Check.told("circuit days 3 law 0 odds 0;" + Check.plain(9, 9, 9, 2, 2, 2) + cause(0, 0, 2));
        DOC.due("when(0)", x.when(0), 0);
        x.appeals(0, 1);
        x.misses(0, 0);
        x.misses(1, 0);
        x.misses(3, 0);
        x.misses(4, 0);
        DOC.due("when(0): not HEARD on DAY 0, appealed on DAY 1", x.when(0), 1);
        DOC.says(52, "NONE: on none is it HEARD; -2 likewise");
        DOC.due("when(0) of two mothers", Check.told(ONE_DAY + Check.plain(1, 2) + CAUSE).when(0), -1);
        DOC.due("when(1)", x.when(1), -2);
    }

    private static void blame() {
        DOC.says(53, "of those without which it is less than SENTENCES of the others are now together, the first of several");
        String four = Check.plain(0, 30, 0, 30);
        DOC.due("blame() of 0", Check.told(ONE_DAY + four + CAUSE + CAUSE).blame(), 0);
        // Cause 0 has 0 and costs cause 1 just one: without it that has 0.
        DOC.due("blame() of one letter", Check.told(ONE_DAY + Check.plain(0, 1, 0, 1) + CAUSE + CAUSE).blame(), 0);
        DOC.due("blame() of one alone", Check.told(ONE_DAY + Check.plain(9, 9, 9) + CAUSE).blame(), -1);
        // By LAW 2: 4, 6, 8; without any of the first two: 4 + 6 < 6 + 8 or 4 + 8; without the third 4 + 6: no less.
        MotherBench law = Check.told("circuit days 1 law 2 odds 0;" + Check.plain(4, 4, 4) + CAUSE.repeat(3));
        DOC.due("blame() by LAW 2, the first of several", law.blame(), 0);
        // As many as the others have now is not less.
        MotherBench even = Check.told("circuit days 1 law 0 odds 0;" + Check.plain(4, 4, 4) + CAUSE.repeat(3));
        DOC.due("blame() of as many", even.blame(), -1);
        DOC.says(53, "NONE: none");
        DOC.due("blame() of no causes", Check.told(ONE_DAY + four).blame(), -1);
        DOC.due("blame() of none heard", Check.told(ONE_DAY + four + cause(0, 0, 1)).blame(), -1);
        DOC.says(53, "not brought at all, leaves the least all()");
        // Cause 1 is heavy: without cause 0 the others have 24 + 6, without cause 1 they have 4 + 6.
        MotherBench least = Check.told("circuit days 1 law 2 odds 0;" + Check.plain(4, 4, 4) + CAUSE + cause(20, 0, 0) + CAUSE);
        DOC.due("blame() of the heavy one", least.blame(), 1);
    }

    // ---- sentences seen ----

    private static MotherBench three() {
        return Check.told("circuit days 3 law 0 odds 5;" + Check.plain(10, 20, 30) + cause(5, 0, 0) + cause(0, 0, 1) + cause(0, 0, 9));
    }

    private static void rowsOfPairs() {
        DOC.says("V", "a CAUSE, SENTENCE of its latest HEARING (0 .. 200; -1: it is not HEARD)");
        long[][] rows = {{0, 200}, {0, 201}, {0, -1}, {0, -2}, {0, 0}, {2, 0}, {3, 0}, {-1, 0}, {Long.MAX_VALUE, 0}, {0, Long.MIN_VALUE},
            {4294967296L, 25}, {0, 4294967321L}};
        long[] fits = {0, -2, 0, -2, 0, 0, -2, -2, -2, -2, -2, -2};
        for (int i = 0; i < rows.length; i++) {
            MotherBench x = three();
            Check.row(x, 0, 3, rows[i]);
            String row = java.util.Arrays.toString(rows[i]);
            DOC.due("fits of " + row, x.fits(0, 0), fits[i]);
            DOC.due("laws of " + row, x.laws(0), fits[i]);
        }
        DOC.says(54, "-2: there is no such SLOT, MOTHER, a number is none such (asked last), not two each; -6: it has nothing");
        MotherBench x = three();
        DOC.due("fits of nothing", x.fits(3, 0), -6);
        DOC.due("fits of nothing, of no mother", x.fits(3, 3), -2);
        DOC.due("fits of no slot", x.fits(4, 0), -2);
        for (int n = 0; n <= 60; n++) {
            x.row(0, 0, n);
            x.write(0, 1, 25);
            DOC.due("fits of " + n + " numbers", x.fits(0, 0), n == 0 ? 41 : n % 2 == 1 ? -2 : n == 2 ? 21 : 0);
        }
        MotherBench full = three();
        full.row(0, 0, 60);
        for (int i = 1; i < 60; i += 2) {
            full.write(0, i, 25);
        }
        DOC.due("fits of a full row", full.fits(0, 0), 21);
        full.write(0, 59, 26);
        DOC.due("fits of a full row, the last otherwise", full.fits(0, 0), 0);
        full.write(0, 58, 9);
        DOC.due("fits of a full row, the last no cause", full.fits(0, 0), -2);
        MotherBench none = Check.told("circuit days 1 law 0 odds 0;" + Check.plain(1, 2, 3));
        none.row(0, 0, 2);
        DOC.due("fits of a cause where there are none", none.fits(0, 0), -2);
    }

    /** The middle of s + 5, 25 and 35 for mother 0: 25 up to 20, 35 from 30 on. */
    private static void stricts() {
        MotherBench x = three();
        long[][] rows = {{}, {0, 25}, {0, 26}, {0, 34}, {0, 35}, {0, 36}, {0, 24}, {2, -1}, {0, 25, 0, 35}};
        int[] fits = {41, 21, 1, 1, 11, 0, 0, 41, 0};
        int[] low = {0, 0, 21, 29, 30, -1, -1, 0, -1};
        int[] high = {40, 20, 21, 29, 40, -1, -1, 40, -1};
        for (int i = 0; i < rows.length; i++) {
            Check.row(x, 1, 2, rows[i]);
            String row = java.util.Arrays.toString(rows[i]);
            DOC.says(54, "how many stricts (0 .. 40) a MOTHER can have been told by a SLOT's row");
            DOC.due("fits of " + row, x.fits(1, 0), fits[i]);
            DOC.says(55, "The least of these. NONE: there is none; -2, -6 likewise");
            DOC.due("low of " + row, x.low(1, 0), low[i]);
            DOC.says(56, "The greatest. NONE, -2, -6 likewise");
            DOC.due("high of " + row, x.high(1, 0), high[i]);
        }
        DOC.says("V", "strict of one MOTHER was told otherwise (0 .. 40), all else (acts, too) as now");
        MotherBench acts = Check.told("circuit days 2 law 0 odds 0;" + Check.plain(9, 9, 9, 0, 20, 40) + CAUSE);
        Check.row(acts, 0, 0, 0, 20);
        DOC.due("fits ahead of the appeal", acts.fits(0, 3), 0);
        acts.appeals(0, 1);
        DOC.due("fits behind it", acts.fits(0, 3), 21);
        acts.misses(5, 1);
        DOC.due("fits of an appeal in vain", acts.fits(0, 3), 0);
        // By LAW 2 cause 1 has 2 more than cause 0: what is told otherwise is strict as told, not as it is then.
        MotherBench law = Check.told("circuit days 1 law 2 odds 0;" + Check.plain(10, 0, 40) + CAUSE + CAUSE);
        Check.row(law, 0, 0, 1, 22);
        DOC.due("low by LAW 2", law.low(0, 0), 20);
        DOC.due("high by LAW 2", law.high(0, 0), 20);
    }

    private static void questions() {
        MotherBench x = three();
        Check.row(x, 0, 0);
        DOC.says(57, "leaves fewest of these at worst, if fewer than now, the first of several");
        DOC.due("ask of two alike", x.ask(0, 0), 0);
        DOC.says(58, "How many it leaves at worst (as now without)");
        DOC.due("leaves of two alike", x.leaves(0, 0), 21);
        long[][] rows = {{0, 25}, {0, 26}, {0, 36}};
        int[] left = {21, 1, 0};
        for (int i = 0; i < rows.length; i++) {
            Check.row(x, 0, 0, rows[i]);
            DOC.says(57, "NONE: none; -2, -6 likewise");
            DOC.due("ask of " + rows[i][1], x.ask(0, 0), -1);
            DOC.says(58, "(as now without)");
            DOC.due("leaves of " + rows[i][1], x.leaves(0, 0), left[i]);
        }
        DOC.says(57, "The CAUSE of which to know SENTENCE (or that it is not HEARD)");
        // Mother 0 does not sit cause 0, her strict shows in cause 1 alone, where 20 and 30 are the others.
        MotherBench away = Check.told("circuit days 2 law 0 odds 0;" + Check.plain(10, 20, 30, 5) + cause(0, 0, 0) + cause(0, 0, 1));
        away.misses(0, 0);
        away.misses(3, 1);
        Check.row(away, 0, 0);
        DOC.due("ask of the second", away.ask(0, 0), 1);
        DOC.due("ask where no cause is heard", noneHeard().ask(0, 0), -1);
        DOC.says(58, "(as now without)");
        DOC.due("leaves where no cause is heard", noneHeard().leaves(0, 0), 41);
        MotherBench none = Check.told(ONE_DAY + Check.plain(1, 2, 3));
        Check.row(none, 0, 0);
        DOC.due("leaves without causes", none.leaves(0, 0), 41);
    }

    private static MotherBench noneHeard() {
        MotherBench x = Check.told(ONE_DAY + Check.plain(1, 2) + CAUSE);
        Check.row(x, 0, 0);
        return x;
    }

    /** Cause 1 has 20 by LAWS 0, 1, 3, 22 by LAW 2. */
    private static void laws() {
        DOC.says(59, "LAWS (0 .. 3) by which it is as such a row tells, as bits");
        MotherBench x = Check.told("circuit days 1 law 0 odds 0;" + Check.plain(10, 20, 30) + CAUSE + CAUSE);
        long[][] rows = {{}, {1, 20}, {1, 22}, {1, 21}, {0, 20, 1, 22}, {0, 20}};
        int[] bits = {15, 11, 4, 0, 4, 15};
        for (int i = 0; i < rows.length; i++) {
            Check.row(x, 3, 1, rows[i]);
            DOC.due("laws of " + java.util.Arrays.toString(rows[i]), x.laws(3), bits[i]);
        }
        DOC.says(59, "-2 (MOTHER aside; no CIRCUIT), -6 likewise");
        DOC.due("laws of nothing", x.laws(0), -6);
        MotherBench nobody = Check.told(ONE_DAY + CAUSE);
        Check.row(nobody, 0, 0, 0, -1);
        DOC.due("laws without mothers", nobody.laws(0), 15);
        MotherBench none = new MotherBench();
        DOC.due("laws of nothing without a CIRCUIT", none.laws(0), -2);
        none.row(0, 0, 0);
        DOC.due("laws of a row without a CIRCUIT", none.laws(0), -2);
        DOC.says(60, "all() by a LAW in place of the one told");
        int[] by = {40, 40, 42, 40};
        for (int law = 0; law < 4; law++) {
            DOC.due("by(" + law + ")", x.by(law), by[law]);
        }
        DOC.due("by(4)", x.by(4), -2);
        DOC.due("by(-1)", x.by(-1), -2);
        DOC.says(61, "The LAW by which it is least, the least of several");
        DOC.due("law() of 40, 40, 42, 40", x.law(), 0);
        // 0 to 3 find 10, 20, 30, 40: cause 1 is before 3, 0, 1, cause 2 before 2, 3, 0: 30, 29, 34, 31.
        MotherBench one = Check.told("circuit days 1 law 3 odds 0;" + Check.plain(10, 20, 30, 40) + CAUSE.repeat(3));
        DOC.due("law() of 70, 69, 74, 71", one.law(), 1);
        // Before 0, 1, 2; 3, 4, 0; 1, 2, 3; 4, 0, 1: 5 + 10 + 5 + 10, 5 + 9 + 5 + 9, (more by LAW 2), 5 + 10 + 4 + 10.
        MotherBench both = Check.told(ONE_DAY + Check.plain(10, 5, 0, 5, 10) + CAUSE.repeat(4));
        int[] less = {30, 28, 34, 29};
        for (int law = 0; law < 4; law++) {
            DOC.due("by(" + law + ") of four", both.by(law), less[law]);
        }
        DOC.due("law() of 30, 28, 34, 29", both.law(), 1);
    }

    // ---- sets that sit alone ----

    private static void worth() {
        DOC.says(62, "WORTH (VI) of a set of MOTHERS (bits). -2: there is no such set, no CIRCUIT");
        MotherBench x = Check.told(ONE_DAY + Check.plain(0, 10, 20, 30) + CAUSE);
        DOC.due("worth(0)", x.worth(0), 0);
        DOC.due("worth of all", x.worth(15), x.all());
        DOC.due("worth of three", x.worth(14), 20);
        DOC.due("worth of two", x.worth(12), 0);
        DOC.due("worth(16)", x.worth(16), -2);
        DOC.due("worth(-1)", x.worth(-1), -2);
        MotherBench seven = Check.told(ONE_DAY + Check.plain(1, 1, 1, 1, 1, 1, 1) + CAUSE);
        DOC.due("worth(127) of seven", seven.worth(127), 1);
        DOC.due("worth(128) of seven", seven.worth(128), -2);
        MotherBench nobody = Check.told(ONE_DAY + CAUSE);
        DOC.due("worth(0) of nobody", nobody.worth(0), 0);
        DOC.due("worth(1) of nobody", nobody.worth(1), -2);
        DOC.says("VI", "A set of MOTHERS sits alone (others are away on all DAYS): it is WORTH all()");
        MotherBench days = Check.told("circuit days 3 law 0 odds 0;" + Check.plain(1, 2, 3, 4, 5, 6) + cause(0, 0, 0) + cause(0, 0, 2));
        days.appeals(0, 1);
        DOC.due("worth of the last three on all DAYS", days.worth(56), 10);
        DOC.due("worth of all, appeals too", days.worth(63), days.all());
        days.misses(3, 2);
        DOC.due("worth of three, one away", days.worth(56), 5);
    }

    private static void shares() {
        DOC.says("VI", "each has what the set is WORTH more by her (below 0, too); each order is as likely: the mean");
        MotherBench x = Check.told(ONE_DAY + Check.plain(0, 0, 30, 30) + CAUSE);
        DOC.due("share(0, 0)", x.share(0, 0), -5);
        DOC.due("share(0, 1)", x.share(0, 1), 1);
        DOC.due("share(2, 0)", x.share(2, 0), 5);
        int sum = 0;
        for (int m = 0; m < 4; m++) {
            sum += x.share(m, 0);
        }
        DOC.due("shares together are all()", sum, x.all());
        DOC.says(63, "SHARE (VI) of a MOTHER, above (what 0; below 0, too), below (1). -1,000,000: there are none such");
        MotherBench three = Check.told(ONE_DAY + Check.plain(7, 7, 7) + CAUSE);
        DOC.due("share(2, 0) of 7 / 3", three.share(2, 0), 7);
        DOC.due("share(2, 1) of 7 / 3", three.share(2, 1), 3);
        MotherBench nothing = Check.told(ONE_DAY + Check.plain(7, 7) + CAUSE);
        DOC.due("share(0, 0) of nothing", nothing.share(0, 0), 0);
        DOC.due("share(0, 1) of nothing", nothing.share(0, 1), 1);
        MotherBench alone = Check.told(ONE_DAY + Check.plain(7) + CAUSE);
        DOC.due("share(0, 1) of one alone", alone.share(0, 1), 1);
        // Of seven alike each has 1 of 7: the third of any order brings all of it.
        MotherBench seven = Check.told(ONE_DAY + Check.plain(1, 1, 1, 1, 1, 1, 1) + CAUSE);
        DOC.due("share(6, 0) of seven", seven.share(6, 0), 1);
        DOC.due("share(6, 1) of seven", seven.share(6, 1), 7);
        everyOrder();
        DOC.due("share(7, 0)", seven.share(7, 0), -1000000);
        DOC.due("share(0, 2)", seven.share(0, 2), -1000000);
        DOC.due("share(0, -1)", seven.share(0, -1), -1000000);
    }

    /** All 5040 orders of seven unlike mothers, by what worth() tells of each set. */
    private static void everyOrder() {
        MotherBench x = Check.told("circuit days 2 law 1 odds 0;" + Check.plain(3, 40, 1, 20, 7, 33, 12) + "kin 0 3;kin 5 6;"
                + cause(4, 0, 0) + cause(0, 0, 1) + cause(9, 0, 1));
        int[] worth = new int[128];
        for (int set = 0; set < 128; set++) {
            worth[set] = x.worth(set);
        }
        long[] together = new long[7];
        long orders = follow(0, worth, together);
        DOC.due("orders", orders, 5040);
        for (int m = 0; m < 7; m++) {
            long above = x.share(m, 0);
            long below = x.share(m, 1);
            DOC.due("share of " + m + ", by all orders", above * orders, together[m] * below);
            DOC.due("share of " + m + " in lowest terms",
                    java.math.BigInteger.valueOf(above).gcd(java.math.BigInteger.valueOf(below)).longValue(), 1);
            DOC.due("share of " + m + ", below above 0", below > 0 ? 1 : 0, 1);
        }
    }

    /** How many orders go on from a set; what each mother brings in them is added up. */
    private static long follow(int set, int[] worth, long[] together) {
        long orders = set == 127 ? 1 : 0;
        for (int m = 0; m < 7; m++) {
            if ((set >> m & 1) == 0) {
                long here = follow(set | 1 << m, worth, together);
                together[m] += here * (worth[set | 1 << m] - worth[set]);
                orders += here;
            }
        }
        return orders;
    }

    // ---- two who may kneel ----

    private static void kneeling() {
        DOC.says("VII", "Of each of two CAUSES the accused kneels (it weighs 5 less, 0 at least), or not");
        int[] weighs = {0, 4, 5, 6, 30};
        int[] sentence = {10, 10, 10, 11, 35};
        for (int i = 0; i < weighs.length; i++) {
            MotherBench x = Check.told(ONE_DAY + Check.plain(10, 10, 10) + cause(weighs[i], 0, 0) + CAUSE);
            DOC.due("gets of " + weighs[i], x.gets(0, 1, 1, 0), 57 - sentence[i]);
            DOC.due("gets of " + weighs[i] + " without", x.gets(0, 1, 0, 0), 50 - weighs[i]);
            DOC.due("gets of the other one of " + weighs[i], x.gets(1, 0, 0, 1), 50);
            DOC.due("cause(0, 0)", x.cause(0, 0), weighs[i]);
        }
        DOC.says("VII", "It GETS 60 less its SENTENCE (0, if it is not HEARD), less 3, if it kneels");
        MotherBench unheard = Check.told(ONE_DAY + Check.plain(10, 10, 10) + CAUSE + cause(0, 0, 1));
        DOC.due("gets of one not heard", unheard.gets(1, 0, 0, 0), 60);
        DOC.due("gets of one not heard who kneels", unheard.gets(1, 0, 1, 0), 57);
        DOC.says(65, "What the first of two GETS by the choices (1 it kneels, 0 not; below 0, too). -1,000: there are none such, one twice");
        MotherBench most = Check.told(ONE_DAY + Check.plain(40, 40, 40) + cause(30, 0, 0) + cause(30, 0, 0));
        DOC.due("gets(0, 1, 0, 0)", most.gets(0, 1, 0, 0), -10);
        DOC.due("gets(0, 1, 1, 0)", most.gets(0, 1, 1, 0), -8);
        DOC.due("gets(0, 0, 0, 0)", most.gets(0, 0, 0, 0), -1000);
        DOC.due("gets(0, 1, 2, 0)", most.gets(0, 1, 2, 0), -1000);
        DOC.due("gets(0, 1, 0, -1)", most.gets(0, 1, 0, -1), -1000);
        // 6, 3, 4 hear the appeal of cause 0. Unless the other one kneels, 4 gets to 3 in cause 1.
        MotherBench felt = felt();
        int[][] choices = {{0, 0}, {1, 0}, {0, 1}, {1, 1}};
        int[] first = {57, 57, 58, 57};
        int[] other = {57, 57, 57, 57};
        for (int i = 0; i < 4; i++) {
            DOC.due("gets of the first, pair " + i, felt.gets(0, 1, choices[i][0], choices[i][1]), first[i]);
            DOC.due("gets of the other, pair " + i, felt.gets(1, 0, choices[i][1], choices[i][0]), other[i]);
        }
    }

    /**
     * By LAW 1, on DAY 0: cause 0 before 0, 1, 2; cause 1 before 3, 4, 5: 3, 2, 3, or 0, 0, 0 if it kneels. On DAY 1
     * cause 0 before 6, 3, 4: 0, 3, 3 (4 is 3 now), or 0, 3, 2 if the other one kneels; 0, 0, 0 if it kneels itself.
     */
    private static MotherBench felt() {
        MotherBench x = Check.told("circuit days 2 law 1 odds 0;" + mother(3, 5, 0, 0, 0) + mother(4, 3, 0, 0, 0) + mother(5, 2, 0, 0, 0)
                + mother(0, 0, 0, 0, 0) + mother(2, 3, 0, 0, 0) + mother(2, 2, 0, 0, 0) + mother(1, 5, 0, 0, 0)
                + cause(3, 1, 0) + cause(3, 1, 0));
        x.appeals(0, 1);
        return x;
    }

    private static void atRest() {
        DOC.says("VII", "REST: neither GETS more by the other choice alone");
        DOC.says(64, "1 neither kneels, 2 the first one does, 4 the other one, 8 both");
        int[][] weighs = {{0, 0}, {30, 0}, {0, 30}, {30, 30}, {3, 0}, {0, 3}, {3, 3}, {3, 30}};
        int[] rests = {1, 2, 4, 8, 3, 5, 15, 12};
        for (int i = 0; i < weighs.length; i++) {
            MotherBench x = Check.told(ONE_DAY + Check.plain(10, 10, 10) + cause(weighs[i][0], 0, 0) + cause(weighs[i][1], 0, 0));
            DOC.due("rests of " + weighs[i][0] + ", " + weighs[i][1], x.rests(0, 1), rests[i]);
        }
        DOC.due("rests of two who feel one another", felt().rests(0, 1), 7);
        DOC.due("rests of them, the other first", felt().rests(1, 0), 7);
        DOC.says(64, "-2: there are none such, one twice");
        MotherBench x = Check.told(ONE_DAY + Check.plain(10, 10, 10) + CAUSE + CAUSE);
        DOC.due("rests(1, 1)", x.rests(1, 1), -2);
        DOC.due("rests(0, 2)", x.rests(0, 2), -2);
        DOC.due("rests(-1, 0)", x.rests(-1, 0), -2);
        DOC.says(64, "pairs of choices of two CAUSES at REST, as bits");
        MotherBench unheard = Check.told(ONE_DAY + Check.plain(10, 10) + cause(30, 0, 0) + cause(30, 0, 0));
        DOC.due("rests of two not heard", unheard.rests(0, 1), 1);
    }
}
