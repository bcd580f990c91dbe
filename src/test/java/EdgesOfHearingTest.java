/** Terms II to IV and promises 9 to 42: the edges that their sentences name, each by its own words. */
public final class EdgesOfHearingTest {
    private static final Sentences DOC = new Sentences();
    private static final String CAUSE = cause(0, 0, 0);

    public static void main(String[] args) {
        daysAheadOfTheLast();
        causesThenAppeals();
        appealsOfThoseHeard();
        fewestFirst();
        noneWhoSatBefore();
        away();
        kinOfThoseWhoSit();
        fewerThanThree();
        neverThen();
        appealInVain();
        zeroAtLeast();
        middleOnes();
        lawsAsTold();
        strictWithinBounds();
        aheadOfHearings();
        lettersBetween();
        lettersOfAnAppeal();
        latestHearings();
        notHeard();
        ofMothers();
        ofDays();
        firstsOfSeveral();
        nobody();
        DOC.close("II", "III", "IV", 9, 10, 11, 12, 13, 14, 15, 16, 17, 18, 19, 20, 21, 22, 23, 24, 25, 26, 27, 28, 29, 30,
            31, 32, 33, 34, 35, 36, 37, 38, 39, 40, 41, 42);
    }

    private static String circuit(int days, int law) {
        return "circuit days " + days + " law " + law + " odds 0;";
    }

    private static String cause(int weighs, int signs, int at) {
        return "cause weighs " + weighs + " signs " + signs + " at " + at + ";";
    }

    private static String mother(int strict, int... ways) {
        return "mother strict " + strict + " ways " + ways[0] + " " + ways[1] + " " + ways[2] + " " + ways[3] + ";";
    }

    // ---- II ----

    private static void daysAheadOfTheLast() {
        DOC.says("II", "On each DAY ahead of the last CAUSES of it are brought, by numbers");
        for (int days = 1; days <= 14; days++) {
            String at = days < 14 ? cause(0, 0, days) : "";
            MotherBench x = Check.told(circuit(days, 0) + Check.plain(1, 2, 3) + cause(0, 0, 0) + cause(0, 0, days - 1) + at);
            DOC.due("tried(0) of " + days, x.tried(0), 0);
            DOC.due("tried(1) of " + days, x.tried(1), days - 1);
            DOC.due("unheard() of " + days, x.unheard(), days < 14 ? 4 : 0);
        }
        // Cause 0 comes on a later DAY than cause 1, cause 2 on the same as it, by numbers.
        MotherBench x = Check.told(circuit(3, 0) + Check.plain(1, 2, 3, 4, 5, 6, 7) + cause(0, 0, 2) + cause(0, 0, 0) + cause(0, 0, 0));
        DOC.due("bench(1)", x.bench(1), 7);
        DOC.due("bench(2)", x.bench(2), 56);
        DOC.due("bench(0)", x.bench(0), 67);
    }

    private static void causesThenAppeals() {
        DOC.says("II", "then APPEALS of it (acts, in their order)");
        String six = Check.plain(10, 11, 12, 13, 14, 15);
        MotherBench x = Check.told(circuit(2, 0) + six + cause(0, 0, 0) + cause(0, 0, 1));
        x.appeals(0, 1);
        // On DAY 1 cause 1 (before 3, 4, 5) is ahead of the appeal (before 3, 4, 5 too, who alone are left).
        DOC.due("first(3)", x.first(3), 1);
        DOC.due("bench(1)", x.bench(1), 56);
        MotherBench y = Check.told(circuit(1, 0) + Check.plain(1, 2, 3, 4, 5, 6, 7) + CAUSE + CAUSE);
        // 0, 1, 2; 3, 4, 5; then 6 and two of one sitting each: of the first appeal 6, 0, 1 (cause 1), else 6, 3, 4 (cause 0).
        y.appeals(1, 0);
        y.appeals(0, 0);
        DOC.due("bench(1) of the first act", y.bench(1), 67);
        DOC.due("bench(0) of the second act: 3, 4, 5 sat one, 6 too", y.bench(0), 56);
        y.anew();
        y.appeals(0, 0);
        y.appeals(1, 0);
        DOC.due("bench(0) of the first act", y.bench(0), 88);
        DOC.due("bench(1) of the second act: 0, 1, 2 sat one, 6 too", y.bench(1), 7);
        // An act done first, for a later DAY, comes later.
        MotherBench z = Check.told(circuit(3, 0) + six + CAUSE + CAUSE);
        z.appeals(0, 2);
        z.appeals(1, 1);
        DOC.due("tried(0)", z.tried(0), 2);
        DOC.due("tried(1)", z.tried(1), 1);
        DOC.due("docket(1)", z.docket(1), 1);
        DOC.due("docket(2)", z.docket(2), 1);
    }

    private static void appealsOfThoseHeard() {
        DOC.says("II", "of CAUSES that were HEARD already (on an earlier DAY, or this one)");
        String seven = Check.plain(10, 11, 12, 13, 14, 15, 16);
        int[] often = {1, 1, 2, 2, 2};
        for (int day = 0; day < 5; day++) {
            MotherBench x = Check.told(circuit(5, 0) + seven + cause(0, 0, 2));
            DOC.due("appeals(0, " + day + ")", x.appeals(0, day), often[day] == 2 ? 14 : 11);
            DOC.due("often(0)", x.often(0), often[day]);
            DOC.due("tried(0)", x.tried(0), often[day] == 2 ? day : 2);
        }
        MotherBench last = Check.told(circuit(5, 0) + seven + cause(0, 0, 5));
        DOC.due("appeals of a cause of the last DAY", last.appeals(0, 4), -1);
        DOC.due("often(0)", last.often(0), 0);
    }

    private static void fewestFirst() {
        DOC.says("II", "those who have sat fewest HEARINGS so far (this DAY's, too) first, of several the least number");
        MotherBench day = Check.told(circuit(3, 0) + Check.plain(1, 2, 3, 4, 5, 6, 7) + CAUSE.repeat(5));
        int[] bench = {7, 56, 67, 28, 97};
        MotherBench days = Check.told(circuit(5, 0) + Check.plain(1, 2, 3, 4, 5, 6, 7)
                + cause(0, 0, 0) + cause(0, 0, 1) + cause(0, 0, 2) + cause(0, 0, 3) + cause(0, 0, 4));
        for (int c = 0; c < 5; c++) {
            DOC.due("bench(" + c + ") of one DAY", day.bench(c), bench[c]);
            DOC.due("bench(" + c + ") of five", days.bench(c), bench[c]);
        }
        MotherBench strict = Check.told(circuit(1, 0) + Check.plain(40, 30, 20, 10, 0) + CAUSE);
        DOC.due("the least number, not the least strict", strict.bench(0), 7);
    }

    private static void noneWhoSatBefore() {
        DOC.says("II", "of an APPEAL none who sat any HEARING of the CAUSE");
        MotherBench x = Check.told(circuit(2, 0) + Check.plain(1, 2, 3, 14, 15, 16) + CAUSE);
        DOC.due("appeals(0, 0)", x.appeals(0, 0), 15);
        DOC.due("bench(0)", x.bench(0), 56);
        DOC.due("appeals(0, 1): nobody is left", x.appeals(0, 1), 15);
        DOC.due("often(0)", x.often(0), 2);
        MotherBench five = Check.told(circuit(2, 0) + Check.plain(1, 2, 3, 14, 15) + CAUSE);
        DOC.due("appeals where two are left", five.appeals(0, 0), 2);
        DOC.due("often(0)", five.often(0), 1);
        // Who sat other causes may sit: 3, 4, 5 heard cause 1, and hear cause 0 anew.
        MotherBench other = Check.told(circuit(2, 0) + Check.plain(1, 2, 3, 14, 15, 16) + CAUSE + CAUSE);
        other.appeals(0, 1);
        DOC.due("bench(0) of those who sat another", other.bench(0), 56);
        DOC.due("hers(3)", other.hers(3), 3);
    }

    private static void away() {
        DOC.says("II", "none who is away on that DAY, by acts");
        String text = circuit(3, 0) + Check.plain(1, 2, 3, 4, 5) + cause(0, 0, 0) + cause(0, 0, 1);
        MotherBench x = Check.told(text);
        x.misses(0, 0);
        DOC.due("bench(0) without her", x.bench(0), 14);
        DOC.due("bench(1) on another DAY: she and 4 sat none", x.bench(1), 19);
        x.misses(0, 0);
        DOC.due("bench(0) of twice away", x.bench(0), 14);
        DOC.due("undo()", x.undo(), 1);
        DOC.due("bench(0) of once away", x.bench(0), 14);
        x.misses(1, 0);
        DOC.due("bench(0) of three left", x.bench(0), 28);
        DOC.due("misses(2, 0)", x.misses(2, 0), 1);
        DOC.due("bench(0) of two left", x.bench(0), 0);
        MotherBench appeal = Check.told(circuit(3, 0) + Check.plain(1, 2, 3, 14, 15, 16, 17) + CAUSE);
        appeal.appeals(0, 1);
        appeal.misses(3, 1);
        DOC.due("an act behind the appeal, of its DAY", appeal.bench(0), 112);
        appeal.misses(4, 1);
        DOC.due("bench(0) of the appeal in vain", appeal.bench(0), 7);
        MotherBench ahead = Check.told(circuit(3, 0) + Check.plain(1, 2, 3, 14, 15, 16, 17) + CAUSE);
        ahead.misses(5, 1);
        ahead.appeals(0, 1);
        DOC.due("an act ahead of the appeal", ahead.bench(0), 88);
    }

    private static void kinOfThoseWhoSit() {
        DOC.says("II", "each sits, unless she is KIN to one who sits already, till three do: the BENCH");
        String five = Check.plain(1, 2, 3, 4, 5);
        DOC.due("1 is kin to 0", Check.told(circuit(1, 0) + five + "kin 0 1;" + CAUSE).bench(0), 13);
        DOC.due("2 is kin to 1", Check.told(circuit(1, 0) + five + "kin 2 1;" + CAUSE).bench(0), 11);
        DOC.due("2 is kin to 1, who does not sit", Check.told(circuit(1, 0) + five + "kin 0 1;kin 1 2;" + CAUSE).bench(0), 13);
        DOC.due("1, 2 and 3 are kin to 0", Check.told(circuit(1, 0) + five + "kin 0 1;kin 0 2;kin 0 3;" + CAUSE).bench(0), 0);
        DOC.due("1 and 2 are kin to 0", Check.told(circuit(1, 0) + five + "kin 0 1;kin 0 2;" + CAUSE).bench(0), 25);
        DOC.due("the fourth is kin to the third", Check.told(circuit(1, 0) + five + "kin 2 3;" + CAUSE).bench(0), 7);
        // 0 sits first though without her three could: {1, 2, 3} are no kin.
        DOC.due("who sits stays", Check.told(circuit(1, 0) + Check.plain(1, 2, 3, 4) + "kin 0 1;kin 0 2;" + CAUSE).bench(0), 0);
    }

    private static void fewerThanThree() {
        DOC.says("II", "If fewer do, it is not HEARD (nobody has sat;");
        String[] benches = {"", Check.plain(9), Check.plain(9, 9), Check.plain(9, 9, 9) + "kin 0 2;"};
        for (int n = 0; n < 4; n++) {
            MotherBench x = Check.told(circuit(1, 2) + benches[n] + CAUSE);
            DOC.due("bench(0) of " + n, x.bench(0), 0);
            DOC.due("unheard()", x.unheard(), 1);
            DOC.due("idle()", x.idle(), (1 << n) - 1);
            for (int m = 0; m < n; m++) {
                DOC.due("rise(" + m + ")", x.rise(m), 0);
                DOC.due("sat(" + m + ", 1)", x.sat(m, 1), 0);
            }
        }
        DOC.due("three do", Check.told(circuit(1, 2) + Check.plain(9, 9, 9) + CAUSE).bench(0), 7);
        // 0 and 3 would sit on DAY 0, but for a third: on DAY 1 they come first all the same.
        MotherBench x = Check.told(circuit(2, 0) + Check.plain(1, 2, 3, 4) + cause(0, 0, 0) + cause(0, 0, 1));
        x.misses(1, 0);
        x.misses(2, 0);
        DOC.due("bench(0)", x.bench(0), 0);
        DOC.due("bench(1)", x.bench(1), 7);
        DOC.due("docket(0)", x.docket(0), 0);
    }

    private static void neverThen() {
        DOC.says("II", "a CAUSE never then, APPEALS of it come to nothing;");
        MotherBench x = Check.told(circuit(4, 0) + Check.plain(1, 2, 3) + cause(0, 0, 1));
        x.misses(0, 1);
        for (int day = 0; day < 4; day++) {
            DOC.due("appeals(0, " + day + ")", x.appeals(0, day), -1);
        }
        DOC.due("often(0)", x.often(0), 0);
        DOC.due("idle()", x.idle(), 7);
    }

    private static void appealInVain() {
        DOC.says("II", "an APPEAL changes nothing)");
        MotherBench x = Check.told(circuit(4, 2) + Check.plain(1, 2, 3, 4, 5) + CAUSE + cause(0, 0, 2));
        MotherBench twin = Check.told(circuit(4, 2) + Check.plain(1, 2, 3, 4, 5) + CAUSE + cause(0, 0, 2));
        x.appeals(0, 1);
        DOC.due("often(0)", x.often(0), 1);
        DOC.due("tried(0)", x.tried(0), 0);
        DOC.due("docket(1)", x.docket(1), 0);
        DOC.due("gavel(1)", x.gavel(1), 0);
        DOC.due("bench(1)", x.bench(1), twin.bench(1));
        for (int m = 0; m < 5; m++) {
            DOC.due("strict(" + m + ", 4)", x.strict(m, 4), twin.strict(m, 4));
            DOC.due("sat(" + m + ", 4)", x.sat(m, 4), twin.sat(m, 4));
        }
        for (int day = 0; day <= 4; day++) {
            DOC.due("due(" + day + ")", x.due(day), twin.due(day));
        }
    }

    private static void zeroAtLeast() {
        DOC.says("II", "less by her way (of bit 0 the first one, of bit 3 the fourth) for each bit of its signs, 0 at least");
        for (int signs = 0; signs < 16; signs++) {
            MotherBench x = Check.told(circuit(1, 0) + mother(20, 1, 2, 4, 8).repeat(3) + cause(10, signs, 0));
            DOC.due("sentence(0) of signs " + signs, x.sentence(0), 30 - signs);
        }
        int[] strict = {4, 5, 6};
        int[] found = {0, 0, 1};
        for (int i = 0; i < 3; i++) {
            MotherBench x = Check.told(circuit(1, 0) + mother(strict[i], 9, 0, 0, 0).repeat(3) + cause(4, 1, 0));
            DOC.due("found of " + strict[i] + " + 4 - 9", x.found(0, 0), found[i]);
        }
        MotherBench least = Check.told(circuit(1, 0) + mother(0, 20, 20, 20, 20).repeat(3) + cause(0, 15, 0));
        DOC.due("sentence of -80", least.sentence(0), 0);
        MotherBench most = Check.told(circuit(1, 0) + mother(40, 20, 20, 20, 20).repeat(3) + cause(30, 0, 0));
        DOC.due("sentence of 70", most.sentence(0), 70);
    }

    private static void middleOnes() {
        DOC.says("II", "SENTENCE is the middle one of what three FOUND");
        int[][] stricts = {{1, 2, 3}, {1, 3, 2}, {2, 1, 3}, {2, 3, 1}, {3, 1, 2}, {3, 2, 1}, {1, 1, 2}, {1, 2, 1}, {2, 1, 1},
            {1, 2, 2}, {2, 1, 2}, {2, 2, 1}, {2, 2, 2}};
        int[] middle = {2, 2, 2, 2, 2, 2, 1, 1, 1, 2, 2, 2, 2};
        int[] first = {1, 2, 0, 0, 2, 1, 0, 0, 1, 1, 0, 0, 0};
        for (int i = 0; i < stricts.length; i++) {
            MotherBench x = Check.told(circuit(1, 0) + Check.plain(stricts[i]) + CAUSE);
            DOC.due("sentence of " + java.util.Arrays.toString(stricts[i]), x.sentence(0), middle[i]);
            DOC.due("middle of " + java.util.Arrays.toString(stricts[i]), x.middle(0), first[i]);
            int[] sorted = stricts[i].clone();
            java.util.Arrays.sort(sorted);
            DOC.due("apart of " + java.util.Arrays.toString(stricts[i]), x.apart(0), sorted[2] - sorted[0]);
        }
    }

    // ---- III ----

    private static void stricts(int law, String mothers, String causes, int... due) {
        MotherBench x = Check.told(circuit(1, law) + mothers + causes);
        for (int m = 0; m < due.length; m++) {
            DOC.due("strict(" + m + ", 1) by LAW " + law + " of " + mothers, x.strict(m, 1), due[m]);
        }
    }

    private static void lawsAsTold() {
        DOC.says("III", "STRICT of each is as told in DAY 0");
        for (int law = 0; law < 4; law++) {
            MotherBench x = Check.told(circuit(1, law) + Check.plain(0, 20, 40) + CAUSE);
            DOC.due("strict(0, 0)", x.strict(0, 0), 0);
            DOC.due("strict(1, 0)", x.strict(1, 0), 20);
            DOC.due("strict(2, 0)", x.strict(2, 0), 40);
        }
        DOC.says("III", "for its three, by LAW, 0: as it was");
        stricts(0, Check.plain(10, 20, 30, 40), CAUSE, 10, 20, 30, 40);
        DOC.says("III", "1: 1 nearer, of each who FOUND otherwise than the SENTENCE: less, if she FOUND more, else more");
        stricts(1, Check.plain(10, 20, 30, 40), CAUSE, 11, 20, 29, 40);
        stricts(1, Check.plain(20, 20, 21), CAUSE, 20, 20, 20);
        stricts(1, Check.plain(20, 20, 19), CAUSE, 20, 20, 20);
        stricts(1, Check.plain(20, 20, 20), CAUSE, 20, 20, 20);
        DOC.says("III", "2: 2 more, if the CAUSE shows no signs");
        stricts(2, Check.plain(10, 20, 30, 40), CAUSE, 12, 22, 32, 40);
        for (int signs = 1; signs < 16; signs++) {
            stricts(2, Check.plain(10, 20, 30, 40), cause(0, signs, 0), 10, 20, 30, 40);
        }
        DOC.says("III", "3: 1 farther, of each who FOUND otherwise: more, if she FOUND more, else less");
        stricts(3, Check.plain(10, 20, 30, 40), CAUSE, 9, 20, 31, 40);
        stricts(3, Check.plain(20, 20, 21), CAUSE, 20, 20, 22);
        stricts(3, Check.plain(20, 20, 19), CAUSE, 20, 20, 18);
    }

    /** 60 itself is out of reach: of each of 8 causes a mother sits one hearing at most, so 56 is the most. */
    private static void strictWithinBounds() {
        DOC.says("III", "by each LAW 0 at least, 60 at most");
        String none = mother(5, 20, 0, 0, 0).repeat(2);
        stricts(1, mother(0, 0, 0, 0, 0) + none, cause(3, 1, 0), 0, 5, 5);
        stricts(1, mother(1, 0, 0, 0, 0) + none, cause(3, 1, 0), 0, 5, 5);
        stricts(1, mother(1, 0, 0, 0, 0) + none, cause(3, 1, 0).repeat(2), 0, 5, 5);
        stricts(3, Check.plain(0, 10, 20), CAUSE, 0, 10, 21);
        stricts(3, Check.plain(1, 10, 20), CAUSE, 0, 10, 21);
        stricts(3, Check.plain(1, 10, 20), CAUSE + CAUSE, 0, 10, 22);
        stricts(2, Check.plain(40, 40, 40), CAUSE.repeat(8), 56, 56, 56);
        stricts(3, Check.plain(40, 39, 38), CAUSE.repeat(8), 48, 39, 30);
        stricts(1, Check.plain(40, 0, 0), CAUSE.repeat(8), 32, 0, 0);
    }

    private static void aheadOfHearings() {
        DOC.says("III", "In a DAY, below: as it is ahead of HEARINGS of it");
        MotherBench x = Check.told(circuit(3, 2) + Check.plain(1, 2, 3) + cause(0, 0, 1) + cause(0, 0, 1));
        int[] strict = {1, 1, 5, 5};
        for (int day = 0; day <= 3; day++) {
            DOC.due("strict(0, " + day + ")", x.strict(0, day), strict[day]);
        }
        DOC.due("found(1, 0) behind a hearing of the same DAY", x.found(1, 0), 3);
    }

    // ---- IV ----

    private static void lettersBetween() {
        DOC.says("IV", "its SENTENCE less as many DAYS as lie between them (the next DAY: none; 0 at least)");
        MotherBench x = Check.told(circuit(7, 0) + Check.plain(3, 3, 3) + cause(0, 0, 1));
        int[] owes = {0, 0, 3, 2, 1, 0, 0, 0};
        for (int day = 0; day <= 7; day++) {
            DOC.due("owes(0, " + day + ")", x.owes(0, day), owes[day]);
            DOC.due("due(" + day + ")", x.due(day), owes[day]);
            DOC.due("writers(" + day + ")", x.writers(day), owes[day] > 0 ? 1 : 0);
        }
        DOC.due("free(0)", x.free(0), 5);
        MotherBench none = Check.told(circuit(2, 0) + Check.plain(0, 0, 0) + CAUSE);
        DOC.due("owes(0, 1) of none", none.owes(0, 1), 0);
        DOC.due("owes(0, 2) of none", none.owes(0, 2), 0);
        DOC.due("free(0) of none", none.free(0), 1);
    }

    private static void lettersOfAnAppeal() {
        DOC.says("IV", "of an APPEAL in place of what was due");
        MotherBench x = Check.told(circuit(6, 0) + Check.plain(9, 9, 9, 2, 2, 2) + CAUSE);
        x.appeals(0, 2);
        int[] owes = {0, 9, 8, 2, 1, 0, 0};
        for (int day = 0; day <= 6; day++) {
            DOC.due("owes(0, " + day + ")", x.owes(0, day), owes[day]);
        }
        DOC.due("free(0)", x.free(0), 5);
        MotherBench day = Check.told(circuit(3, 0) + Check.plain(9, 9, 9, 2, 2, 2) + CAUSE);
        day.appeals(0, 0);
        DOC.due("owes(0, 0) of one DAY", day.owes(0, 0), 0);
        DOC.due("owes(0, 1) of one DAY", day.owes(0, 1), 2);
        DOC.due("due(1) of one DAY", day.due(1), 2);
    }

    // ---- causes ----

    /** 0, 1, 2 find 9, 4, 6 of cause 0; 3, 4, 5 find 20, 22, 21 of its appeal on DAY 3. */
    private static void latestHearings() {
        MotherBench x = Check.told(circuit(5, 0) + Check.plain(9, 4, 6, 20, 22, 21) + cause(0, 0, 1));
        DOC.says(9, "How often a CAUSE is HEARD");
        DOC.due("often(0)", x.often(0), 1);
        x.appeals(0, 3);
        DOC.due("often(0) with an appeal", x.often(0), 2);
        DOC.says(10, "BENCH of the latest HEARING of a CAUSE, as bits");
        DOC.due("bench(0)", x.bench(0), 56);
        DOC.says(11, "What MOTHER i (0 .. 2, by numbers) of that BENCH FOUND");
        DOC.due("found(0, 0)", x.found(0, 0), 20);
        DOC.due("found(0, 1)", x.found(0, 1), 22);
        DOC.due("found(0, 2)", x.found(0, 2), 21);
        DOC.says(12, "SENTENCE of that HEARING");
        DOC.due("sentence(0)", x.sentence(0), 21);
        DOC.says(13, "The DAY of that HEARING");
        DOC.due("tried(0)", x.tried(0), 3);
        DOC.says(14, "The MOTHER of that BENCH who FOUND just the SENTENCE, the first of several");
        DOC.due("middle(0)", x.middle(0), 5);
        DOC.says(15, "By how much the most and the least FOUND there are apart");
        DOC.due("apart(0)", x.apart(0), 2);
        x.undo();
        DOC.due("apart(0) without the appeal", x.apart(0), 5);
        DOC.due("apart of three alike", Check.told(circuit(1, 0) + Check.plain(7, 7, 7) + CAUSE).apart(0), 0);
        // 0, who finds 21 too, does not sit: the bench of the appeal is 3, 4, 5.
        MotherBench other = Check.told(circuit(1, 0) + Check.plain(21, 4, 6, 20, 22, 21) + CAUSE);
        other.appeals(0, 0);
        DOC.says(14, "of that BENCH");
        DOC.due("middle(0)", other.middle(0), 5);
        DOC.says(42, "MOTHERS who sat no HEARING of a CAUSE, as bits");
        DOC.due("fresh(0) of all", other.fresh(0), 0);
        other.undo();
        DOC.due("fresh(0) of three", other.fresh(0), 56);
    }

    private static void notHeard() {
        MotherBench x = Check.told(circuit(2, 0) + Check.plain(1, 2, 3) + cause(0, 0, 1) + cause(0, 0, 2));
        DOC.says(9, "How often a CAUSE is HEARD (II)");
        DOC.due("often(1)", x.often(1), 0);
        DOC.says(10, "0: it is not HEARD; -2: there is none such");
        DOC.due("bench(1)", x.bench(1), 0);
        DOC.due("bench(2)", x.bench(2), -2);
        DOC.says(11, "NONE: it is not HEARD; -2: there are none such");
        for (int i = 0; i < 3; i++) {
            DOC.due("found(1, " + i + ")", x.found(1, i), -1);
        }
        DOC.due("found(1, 3)", x.found(1, 3), -2);
        DOC.due("found(0, -1)", x.found(0, -1), -2);
        DOC.says(12, "NONE, -2 likewise");
        DOC.due("sentence(1)", x.sentence(1), -1);
        DOC.due("sentence(2)", x.sentence(2), -2);
        DOC.says(13, "NONE, -2 likewise");
        DOC.due("tried(1)", x.tried(1), -1);
        DOC.due("tried(2)", x.tried(2), -2);
        DOC.says(14, "NONE, -2 likewise");
        DOC.due("middle(1)", x.middle(1), -1);
        DOC.due("middle(2)", x.middle(2), -2);
        DOC.says(15, "NONE, -2 likewise");
        DOC.due("apart(1)", x.apart(1), -1);
        DOC.due("apart(2)", x.apart(2), -2);
        DOC.says(16, "CAUSES that are not HEARD, as bits");
        DOC.due("unheard()", x.unheard(), 2);
        DOC.due("unheard() of eight", Check.told(circuit(1, 0) + CAUSE.repeat(8)).unheard(), 255);
        DOC.due("unheard() of none", Check.told(circuit(1, 0)).unheard(), 0);
        DOC.says(26, "NONE: in none, it is not HEARD");
        DOC.due("free(1)", x.free(1), -1);
        DOC.due("free(0)", x.free(0), -1);
        DOC.says(25, "LETTERS still due of a CAUSE in a DAY");
        DOC.due("owes(1, 2)", x.owes(1, 2), 0);
        DOC.due("owes(0, 2)", x.owes(0, 2), 2);
        DOC.due("owes(0, 3)", x.owes(0, 3), -2);
        DOC.due("owes(2, 2)", x.owes(2, 2), -2);
    }

    // ---- mothers ----

    /** 0 to 2 find 9, 4, 6 of cause 0; 3 to 5 find 20, 20, 21 of cause 1 and then of the appeal of cause 0. */
    private static void ofMothers() {
        MotherBench x = Check.told(circuit(5, 0) + Check.plain(9, 4, 6, 20, 20, 21, 1) + cause(0, 0, 1) + cause(0, 0, 1));
        x.misses(6, 1);
        x.misses(6, 3);
        x.appeals(0, 3);
        DOC.says(17, "STRICT (III) of a MOTHER in a DAY");
        DOC.due("strict(6, 5)", x.strict(6, 5), 1);
        DOC.says(18, "How many HEARINGS a MOTHER has sat by a DAY");
        int[] sat = {0, 0, 1, 1, 2, 2};
        for (int day = 0; day <= 5; day++) {
            DOC.due("sat(3, " + day + ")", x.sat(3, day), sat[day]);
            DOC.due("sat(6, " + day + ")", x.sat(6, day), 0);
        }
        DOC.says(19, "CAUSES (HEARINGS of them) of which she sat, as bits");
        DOC.due("hers(0)", x.hers(0), 1);
        DOC.due("hers(3)", x.hers(3), 3);
        DOC.due("hers(6)", x.hers(6), 0);
        DOC.says(20, "The first CAUSE of which she sat, by HEARINGS as they come. NONE: of none");
        DOC.due("first(0)", x.first(0), 0);
        DOC.due("first(3): not by numbers", x.first(3), 1);
        DOC.due("first(6)", x.first(6), -1);
        MotherBench gap = Check.told(circuit(1, 0) + Check.plain(1, 2, 3, 4, 5) + "kin 0 1;kin 0 3;" + CAUSE);
        int[] first = {0, -1, 0, -1, 0};
        for (int m = 0; m < 5; m++) {
            DOC.due("first(" + m + ") of 0, 2, 4", gap.first(m), first[m]);
        }
        int[] agrees = {0, 0, 1, 2, 2, 0, 0};
        int[] sum = {9, 4, 6, 40, 40, 42, 0};
        for (int m = 0; m < 7; m++) {
            DOC.says(21, "In how many HEARINGS she FOUND just the SENTENCE");
            DOC.due("agrees(" + m + ")", x.agrees(m), agrees[m]);
            DOC.says(22, "What she FOUND in all HEARINGS, together");
            DOC.due("sum(" + m + ")", x.sum(m), sum[m]);
        }
        DOC.says(23, "In how many HEARINGS two MOTHERS (one twice, too) both sat");
        DOC.due("together(3, 5)", x.together(3, 5), 2);
        DOC.due("together(5, 3)", x.together(5, 3), 2);
        DOC.due("together(3, 3)", x.together(3, 3), 2);
        DOC.due("together(0, 3)", x.together(0, 3), 0);
        DOC.due("together(3, 0)", x.together(3, 0), 0);
        DOC.due("together(0, 0)", x.together(0, 0), 1);
        DOC.due("together(6, 6)", x.together(6, 6), 0);
        DOC.says(37, "In how many HEARINGS a MOTHER FOUND more than each of the other two");
        DOC.due("above(5)", x.above(5), 2);
        DOC.due("above(3)", x.above(3), 0);
        DOC.due("above(0)", x.above(0), 1);
        DOC.due("above(6)", x.above(6), 0);
        DOC.says(38, "In how many she FOUND less than each of them");
        DOC.due("below(3): 4 found as much", x.below(3), 0);
        DOC.due("below(1)", x.below(1), 1);
        DOC.due("below(5)", x.below(5), 0);
        DOC.due("below(6)", x.below(6), 0);
        DOC.says(35, "How much more strict a MOTHER is in the last DAY than as told (below 0, too)");
        MotherBench law = Check.told(circuit(2, 3) + Check.plain(10, 20, 30, 40) + cause(0, 0, 1));
        DOC.due("rise(0)", law.rise(0), -1);
        DOC.due("rise(1)", law.rise(1), 0);
        DOC.due("rise(2)", law.rise(2), 1);
        DOC.due("rise(3)", law.rise(3), 0);
        DOC.due("rise(4)", law.rise(4), -1000);
        DOC.due("rise(0) by more", Check.told(circuit(1, 3) + Check.plain(10, 20, 30) + CAUSE.repeat(8)).rise(0), -8);
        DOC.says(33, "MOTHERS who never sat, as bits");
        DOC.due("idle()", x.idle(), 64);
    }

    // ---- days ----

    private static void ofDays() {
        MotherBench x = Check.told(circuit(3, 0) + Check.plain(1, 2, 3, 4, 5, 6) + cause(0, 0, 0) + cause(5, 0, 2) + cause(0, 0, 2));
        x.appeals(0, 2);
        DOC.says(24, "LETTERS due (IV) in a DAY. -2: there is none such, no CIRCUIT");
        int[] due = {0, 2, 1, 17};
        for (int day = 0; day <= 3; day++) {
            DOC.due("due(" + day + ")", x.due(day), due[day]);
        }
        DOC.due("due(4)", x.due(4), -2);
        DOC.due("due(-1)", x.due(-1), -2);
        // DAY 2: cause 1 before 3, 4, 5: 10; cause 2 before 0, 1, 2: 2; the appeal before 3, 4, 5: 5.
        DOC.says(34, "How many HEARINGS there are on a DAY ahead of the last. -2: there is none such");
        DOC.due("docket(0)", x.docket(0), 1);
        DOC.due("docket(1)", x.docket(1), 0);
        DOC.due("docket(2)", x.docket(2), 3);
        DOC.due("docket(3)", x.docket(3), -2);
        DOC.says(41, "SENTENCES of HEARINGS on a DAY ahead of the last, together. -2: there is none such");
        DOC.due("gavel(0), though appealed", x.gavel(0), 2);
        DOC.due("gavel(1)", x.gavel(1), 0);
        DOC.due("gavel(2)", x.gavel(2), 17);
        DOC.due("gavel(3)", x.gavel(3), -2);
        DOC.says(28, "SENTENCES of latest HEARINGS, together");
        DOC.due("all()", x.all(), 17);
        DOC.says(36, "CAUSES of which LETTERS are due in a DAY, as bits");
        DOC.due("writers(0)", x.writers(0), 0);
        DOC.due("writers(2)", x.writers(2), 1);
        DOC.due("writers(3)", x.writers(3), 7);
        DOC.due("writers(4)", x.writers(4), -2);
        DOC.says(26, "The first DAY behind its latest HEARING in which nothing is due of a CAUSE");
        MotherBench free = Check.told(circuit(4, 0) + Check.plain(2, 2, 2, 0, 0, 0) + CAUSE + cause(2, 0, 0) + cause(1, 0, 0));
        DOC.due("free(0) of 2", free.free(0), 3);
        DOC.due("free(1) of 2", free.free(1), 3);
        DOC.due("free(2) of 3, the last DAY", free.free(2), 4);
        MotherBench late = Check.told(circuit(4, 0) + Check.plain(2, 2, 2, 0, 0, 0) + cause(2, 0, 0));
        DOC.due("free of 4, beyond it", late.free(0), -1);
        late.appeals(0, 3);
        DOC.due("free of 2 from DAY 3 on", late.free(0), -1);
        MotherBench back = Check.told(circuit(4, 0) + Check.plain(0, 0, 0, 1, 1, 1) + CAUSE);
        back.appeals(0, 2);
        DOC.due("free: DAY 1 is ahead of the latest hearing", back.free(0), 4);
    }

    // ---- the first of several ----

    private static void firstsOfSeveral() {
        DOC.says(27, "The DAY in which most LETTERS are due, the first of several");
        DOC.due("most() of 1, 1", Check.told(circuit(3, 0) + Check.plain(1, 1, 1) + cause(0, 0, 0) + cause(0, 0, 1)).most(), 1);
        DOC.due("most() of none", Check.told(circuit(3, 0) + Check.plain(0, 0, 0) + CAUSE).most(), 0);
        DOC.due("most(), the last DAY", Check.told(circuit(3, 0) + Check.plain(1, 1, 1) + cause(0, 0, 2)).most(), 3);
        DOC.says(29, "The CAUSE with the greatest SENTENCE, the first of several. NONE: none is HEARD");
        String three = Check.plain(1, 1, 1);
        DOC.due("worst() of 1, 3, 3", Check.told(circuit(1, 0) + three + cause(0, 0, 0) + cause(2, 0, 0) + cause(2, 0, 0)).worst(), 1);
        DOC.due("worst() of 3, 3, 1", Check.told(circuit(1, 0) + three + cause(2, 0, 0) + cause(2, 0, 0) + cause(0, 0, 0)).worst(), 0);
        DOC.due("worst() of 1, 3, 4", Check.told(circuit(1, 0) + three + cause(0, 0, 0) + cause(2, 0, 0) + cause(3, 0, 0)).worst(), 2);
        DOC.due("worst() of -, 0", Check.told(circuit(1, 0) + Check.plain(0, 0, 0) + cause(9, 0, 1) + CAUSE).worst(), 1);
        DOC.due("worst() of none", Check.told(circuit(1, 0) + three + cause(9, 0, 1)).worst(), -1);
        DOC.says(30, "The MOTHER who is strictest in a DAY, the first of several");
        MotherBench x = Check.told(circuit(2, 3) + Check.plain(5, 9, 9, 5) + "kin 1 3;" + cause(0, 0, 1));
        DOC.due("hardest(0)", x.hardest(0), 1);
        DOC.due("hardest(2)", x.hardest(2), 1);
        DOC.says(31, "The MOTHER who is least strict in a DAY, likewise");
        DOC.due("softest(0)", x.softest(0), 0);
        DOC.due("softest(2): 0 found less", x.softest(2), 0);
        MotherBench y = Check.told(circuit(2, 3) + Check.plain(9, 9, 8, 8, 9) + "kin 0 3;kin 0 4;" + cause(0, 0, 1));
        DOC.due("softest(1), the first", y.softest(1), 2);
        DOC.due("softest(2) of 9, 9, 7, 8, 9", y.softest(2), 2);
        MotherBench z = Check.told(circuit(2, 1) + Check.plain(9, 9, 10, 8) + cause(0, 0, 1));
        DOC.due("hardest(1)", z.hardest(1), 2);
        DOC.due("hardest(2) of 9, 9, 9, 8", z.hardest(2), 0);
        DOC.due("softest(2), the last one", z.softest(2), 3);
        DOC.says(32, "The MOTHER who sat most HEARINGS by the last DAY, the first of several");
        DOC.due("busy() of one each", z.busy(), 0);
        DOC.due("busy() of 1, 2, 2, 1", Check.told(circuit(1, 0) + Check.plain(1, 1, 1, 1) + "kin 0 3;" + CAUSE + CAUSE).busy(), 1);
        DOC.due("busy() of none", Check.told(circuit(1, 0) + Check.plain(1, 1)).busy(), 0);
        DOC.says(39, "The CAUSE of whose latest HEARING apart() is greatest, the first of several. NONE: none is HEARD");
        String ways = mother(5, 0, 0, 0, 0) + mother(5, 1, 0, 0, 0) + mother(5, 0, 0, 0, 0);
        DOC.due("dissent() of 0, 1, 1", Check.told(circuit(1, 0) + ways + CAUSE + cause(0, 1, 0) + cause(0, 1, 0)).dissent(), 1);
        DOC.due("dissent() of 1, 1, 0", Check.told(circuit(1, 0) + ways + cause(0, 1, 0) + cause(0, 1, 0) + CAUSE).dissent(), 0);
        DOC.due("dissent() of -, 0", Check.told(circuit(1, 0) + three + cause(9, 0, 1) + CAUSE).dissent(), 1);
        DOC.due("dissent() of none", Check.told(circuit(1, 0) + three + cause(9, 0, 1)).dissent(), -1);
        DOC.says(40, "Pairs of CAUSES whose latest HEARINGS had one and the same BENCH: how many");
        DOC.due("same() of 8", Check.told(circuit(1, 0) + three + CAUSE.repeat(8)).same(), 28);
        DOC.due("same() of two that are not heard", Check.told(circuit(1, 0) + three + cause(0, 0, 1).repeat(2)).same(), 0);
        MotherBench appeal = Check.told(circuit(1, 0) + Check.plain(1, 2, 3, 4, 5, 6) + CAUSE + CAUSE);
        DOC.due("same() of 0, 1, 2 and 3, 4, 5", appeal.same(), 0);
        appeal.appeals(0, 0);
        DOC.due("same() with an appeal", appeal.same(), 1);
    }

    private static void nobody() {
        MotherBench x = Check.told(circuit(2, 0) + CAUSE);
        DOC.says(30, "NONE: there are none");
        DOC.due("hardest(0)", x.hardest(0), -1);
        DOC.due("hardest(2)", x.hardest(2), -1);
        DOC.due("hardest(3)", x.hardest(3), -2);
        DOC.says(31, "likewise");
        DOC.due("softest(0)", x.softest(0), -1);
        DOC.due("softest(2)", x.softest(2), -1);
        DOC.due("softest(3)", x.softest(3), -2);
        DOC.says(32, "NONE: there are none");
        DOC.due("busy()", x.busy(), -1);
        DOC.says(33, "MOTHERS who never sat, as bits");
        DOC.due("idle()", x.idle(), 0);
        DOC.says(42, "MOTHERS who sat no HEARING of a CAUSE, as bits");
        DOC.due("fresh(0)", x.fresh(0), 0);
        DOC.due("fresh(0) of seven", Check.told(circuit(1, 0) + Check.plain(1, 1, 1, 1, 1, 1, 1) + cause(0, 0, 1)).fresh(0), 127);
    }
}
