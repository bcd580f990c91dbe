/** Terms III, promises 17, 35, 60 and 61: how strict each gets by the four laws. */
public final class LawTest {
    private static final Check CHECK = new Check();

    public static void main(String[] args) {
        everyLaw();
        bySigns();
        noLessThanZero();
        totalsByLaw();
        wrongLaws();
        CHECK.close();
    }

    private static void stricts(String text, int... due) {
        MotherBench x = Check.told(text);
        for (int m = 0; m < due.length; m++) {
            CHECK.due("strict(" + m + ", 1) of " + text, x.strict(m, 1), due[m]);
            CHECK.due("rise(" + m + ") of " + text, x.rise(m), due[m] - x.mother(m, 0));
        }
    }

    private static void everyLaw() {
        String rest = " odds 0;" + Check.plain(10, 20, 31, 40) + "cause weighs 3 signs 0 at 0;";
        stricts("circuit days 1 law 0" + rest, 10, 20, 31, 40);
        stricts("circuit days 1 law 1" + rest, 11, 20, 30, 40);
        stricts("circuit days 1 law 2" + rest, 12, 22, 33, 40);
        stricts("circuit days 1 law 3" + rest, 9, 20, 32, 40);
        String alike = " odds 0;" + Check.plain(20, 20, 31) + "cause weighs 3 signs 0 at 0;";
        stricts("circuit days 1 law 1" + alike, 20, 20, 30);
        stricts("circuit days 1 law 3" + alike, 20, 20, 32);
    }

    private static void bySigns() {
        stricts("circuit days 1 law 2 odds 0;" + Check.plain(10, 20, 31) + "cause weighs 3 signs 4 at 0;", 10, 20, 31);
        // Strict apart by far, what they find is one: nobody FOUND otherwise.
        stricts("circuit days 1 law 1 odds 0;mother strict 10 ways 10 0 0 0;mother strict 20 ways 20 0 0 0;"
                + "mother strict 0 ways 0 9 9 9;cause weighs 0 signs 1 at 0;", 10, 20, 0);
    }

    private static void noLessThanZero() {
        String first = "mother strict 0 ways 0 0 0 0;mother strict 5 ways 20 0 0 0;mother strict 5 ways 20 0 0 0;";
        stricts("circuit days 1 law 1 odds 0;" + first + "cause weighs 3 signs 1 at 0;", 0, 5, 5);
        stricts("circuit days 1 law 3 odds 0;" + first + "cause weighs 3 signs 1 at 0;", 1, 5, 5);
        stricts("circuit days 1 law 3 odds 0;" + Check.plain(0, 10, 20) + "cause weighs 3 signs 1 at 0;", 0, 10, 21);
        String eight = "cause weighs 0 signs 0 at 0;".repeat(8);
        stricts("circuit days 1 law 2 odds 0;" + Check.plain(40, 39, 0) + eight, 56, 55, 16);
    }

    /** Cause 0 before 0, 1, 2; cause 1 before 3, 0, 1; cause 2 before 2, 3, 0: the third tells the laws apart. */
    private static void totalsByLaw() {
        MotherBench x = Check.told("circuit days 1 law 2 odds 0;" + Check.plain(10, 20, 30, 40)
                + "cause weighs 0 signs 0 at 0;".repeat(3));
        CHECK.due("all()", x.all(), 74);
        CHECK.due("by(0)", x.by(0), 70);
        CHECK.due("by(1)", x.by(1), 69);
        CHECK.due("by(2)", x.by(2), 74);
        CHECK.due("by(3)", x.by(3), 71);
        CHECK.due("law()", x.law(), 1);
        CHECK.due("all() is as it was", x.all(), 74);
        CHECK.due("count(1) is as it was", x.count(1), 2);
        MotherBench alike = Check.told("circuit days 1 law 3 odds 0;" + Check.plain(10, 20, 30) + "cause weighs 0 signs 1 at 0;");
        CHECK.due("law(), the least of several", alike.law(), 0);
    }

    private static void wrongLaws() {
        MotherBench x = Check.told("circuit days 1 law 2 odds 0;");
        CHECK.due("by(4)", x.by(4), -2);
        CHECK.due("by(-1)", x.by(-1), -2);
        CHECK.due("by(3) of nothing", x.by(3), 0);
        CHECK.due("law() of nothing", x.law(), 0);
        CHECK.due("by(0) without a CIRCUIT", new MotherBench().by(0), -2);
        CHECK.due("law() without a CIRCUIT", new MotherBench().law(), -2);
    }
}
