import java.util.Arrays;

/**
 * A circuit of mothers in law who sit in judgement by threes, told as a text; what they find,
 * and what they would find if one thing were otherwise. The document's promises are numbered;
 * the public methods stand in their order.
 */
public final class MotherBench {
    public static final int NONE = -1;

    private static final int NO_SUCH = -2;
    private static final int BELOW_ZERO = -3;
    private static final int FAULTY = -4;
    private static final int REFUSED = -5;
    private static final int NOTHING = -6;
    private static final int BEYOND = -7;
    private static final int UNLIKE = -8;
    private static final int NO_SUCH_SIGNED = -1000;
    private static final int NO_SUCH_SHARE = -1000000;

    private static final int MOST_MOTHERS = 7;
    private static final int MOST_KIN = 8;
    private static final int MOST_CAUSES = 8;
    private static final int MOST_DAYS = 14;
    private static final int MOST_ACTS = 20;
    private static final int MOST_HEARINGS = MOST_CAUSES + MOST_ACTS;
    private static final int MOST_STRICT_TOLD = 40;
    private static final int MOST_STRICT = 60;
    private static final int MOST_SIGNS = 15;
    private static final int MOST_SENTENCE = 200;
    private static final int WAYS = 4;
    private static final int BENCH = 3;
    private static final int LAWS = 4;
    private static final int IMAGES = 3;
    private static final int ALL_MOTHERS = (1 << MOST_MOTHERS) - 1;
    private static final int ALL_CAUSES = (1 << MOST_CAUSES) - 1;

    private final Reader reader;
    private final Circuit told;
    private final Court now;
    private final Panels panels;
    private final Trial trial;
    private final Seen seen;
    private final Chances chances;
    private final Rows rows;
    private final Circuit[] images;
    private int imaged;

    public MotherBench() {
        reader = new Reader();
        told = new Circuit();
        now = new Court(told);
        panels = new Panels(told);
        trial = new Trial(told);
        rows = new Rows();
        seen = new Seen(trial, rows);
        chances = new Chances(trial);
        images = new Circuit[IMAGES];
        for (int k = 0; k < IMAGES; k++) {
            images[k] = new Circuit();
        }
    }

    // ---- the tape, and the circuit that it tells ----

    public int feed(int a, int b, int c, int d, int e) {
        if (!reader.hasRoom()) {
            return NONE;
        }
        reader.append(a);
        reader.append(b);
        reader.append(c);
        reader.append(d);
        reader.append(e);
        return reader.size;
    }

    public int end(int n) {
        if (n < 0 || n > reader.size) {
            return NONE;
        }
        reader.size = n;
        return n;
    }

    public int circuit() {
        if (!reader.read()) {
            return FAULTY;
        }
        told.take(reader.draft);
        reader.size = 0;
        refresh();
        return told.lines;
    }

    public int fault(int what) {
        switch (what) {
            case 0: return reader.fault;
            case 1: return reader.faultPlace;
            default: return NONE;
        }
    }

    public int mother(int mother, int what) {
        if (!isMother(mother) || what < 0 || what > WAYS) {
            return NO_SUCH;
        }
        return what == 0 ? told.strict[mother] : told.ways[WAYS * mother + what - 1];
    }

    public int kin(int mother) {
        return isMother(mother) ? told.kin[mother] : NO_SUCH;
    }

    public int cause(int cause, int what) {
        if (!isCause(cause)) {
            return NO_SUCH;
        }
        switch (what) {
            case 0: return told.weighs[cause];
            case 1: return told.signs[cause];
            case 2: return told.at[cause];
            default: return NO_SUCH;
        }
    }

    // ---- the latest hearing of a cause ----

    public int often(int cause) {
        return isCause(cause) ? now.often[cause] : NO_SUCH;
    }

    public int bench(int cause) {
        return isCause(cause) ? now.latestBench(cause) : NO_SUCH;
    }

    public int found(int cause, int i) {
        if (!isCause(cause) || i < 0 || i >= BENCH) {
            return NO_SUCH;
        }
        return now.latestFound(cause, i);
    }

    public int sentence(int cause) {
        return isCause(cause) ? now.latestSentence(cause) : NO_SUCH;
    }

    public int tried(int cause) {
        return isCause(cause) ? now.latestDay(cause) : NO_SUCH;
    }

    public int middle(int cause) {
        return isCause(cause) ? now.latestMiddle(cause) : NO_SUCH;
    }

    public int apart(int cause) {
        return isCause(cause) ? now.latestApart(cause) : NO_SUCH;
    }

    public int unheard() {
        if (!told.stands()) {
            return NO_SUCH;
        }
        int bits = 0;
        for (int cause = 0; cause < told.causes; cause++) {
            bits |= now.isHeard(cause) ? 0 : 1 << cause;
        }
        return bits;
    }

    // ---- a mother through the days ----

    public int strict(int mother, int day) {
        return isMother(mother) && isDay(day) ? now.strictIn(mother, day) : NO_SUCH;
    }

    public int sat(int mother, int day) {
        return isMother(mother) && isDay(day) ? now.satBy(mother, day) : NO_SUCH;
    }

    public int hers(int mother) {
        return isMother(mother) ? now.causesOf(mother) : NO_SUCH;
    }

    public int first(int mother) {
        return isMother(mother) ? now.firstCauseOf(mother) : NO_SUCH;
    }

    public int agrees(int mother) {
        return isMother(mother) ? now.agreements(mother) : NO_SUCH;
    }

    public int sum(int mother) {
        return isMother(mother) ? now.findingsOf(mother) : NO_SUCH;
    }

    public int together(int mother, int other) {
        return isMother(mother) && isMother(other) ? now.hearingsOf(1 << mother | 1 << other) : NO_SUCH;
    }

    // ---- letters ----

    public int due(int day) {
        return isDay(day) ? now.lettersDue(day) : NO_SUCH;
    }

    public int owes(int cause, int day) {
        return isCause(cause) && isDay(day) ? now.lettersOf(cause, day) : NO_SUCH;
    }

    public int free(int cause) {
        if (!isCause(cause)) {
            return NO_SUCH;
        }
        if (!now.isHeard(cause)) {
            return NONE;
        }
        int day = now.latestDay(cause) + 1 + now.latestSentence(cause);
        return day <= told.days ? day : NONE;
    }

    public int most() {
        if (!told.stands()) {
            return NO_SUCH;
        }
        int best = 0;
        int letters = 0;
        for (int day = 0; day <= told.days; day++) {
            int here = now.lettersDue(day);
            if (here > letters) {
                letters = here;
                best = day;
            }
        }
        return best;
    }

    // ---- the circuit at a glance ----

    public int all() {
        return told.stands() ? now.total() : NO_SUCH;
    }

    public int worst() {
        if (!told.stands()) {
            return NO_SUCH;
        }
        int best = NONE;
        int greatest = NONE;
        for (int cause = 0; cause < told.causes; cause++) {
            if (now.latestSentence(cause) > greatest) {
                greatest = now.latestSentence(cause);
                best = cause;
            }
        }
        return best;
    }

    public int hardest(int day) {
        if (!isDay(day)) {
            return NO_SUCH;
        }
        int best = NONE;
        for (int mother = 0; mother < told.mothers; mother++) {
            if (best == NONE || now.strictIn(mother, day) > now.strictIn(best, day)) {
                best = mother;
            }
        }
        return best;
    }

    public int softest(int day) {
        if (!isDay(day)) {
            return NO_SUCH;
        }
        int best = NONE;
        for (int mother = 0; mother < told.mothers; mother++) {
            if (best == NONE || now.strictIn(mother, day) < now.strictIn(best, day)) {
                best = mother;
            }
        }
        return best;
    }

    public int busy() {
        if (!told.stands()) {
            return NO_SUCH;
        }
        int best = NONE;
        for (int mother = 0; mother < told.mothers; mother++) {
            if (best == NONE || now.satBy(mother, told.days) > now.satBy(best, told.days)) {
                best = mother;
            }
        }
        return best;
    }

    public int idle() {
        if (!told.stands()) {
            return NO_SUCH;
        }
        int bits = 0;
        for (int mother = 0; mother < told.mothers; mother++) {
            bits |= now.satBy(mother, told.days) == 0 ? 1 << mother : 0;
        }
        return bits;
    }

    public int docket(int day) {
        return isHearingDay(day) ? now.hearingsOn(day) : NO_SUCH;
    }

    public int rise(int mother) {
        if (!isMother(mother)) {
            return NO_SUCH_SIGNED;
        }
        return now.strictIn(mother, told.days) - told.strict[mother];
    }

    public int writers(int day) {
        if (!isDay(day)) {
            return NO_SUCH;
        }
        int bits = 0;
        for (int cause = 0; cause < told.causes; cause++) {
            bits |= now.lettersOf(cause, day) > 0 ? 1 << cause : 0;
        }
        return bits;
    }

    public int above(int mother) {
        return isMother(mother) ? now.timesBeyondOthers(mother, 1) : NO_SUCH;
    }

    public int below(int mother) {
        return isMother(mother) ? now.timesBeyondOthers(mother, -1) : NO_SUCH;
    }

    public int dissent() {
        if (!told.stands()) {
            return NO_SUCH;
        }
        int best = NONE;
        int greatest = NONE;
        for (int cause = 0; cause < told.causes; cause++) {
            if (now.latestApart(cause) > greatest) {
                greatest = now.latestApart(cause);
                best = cause;
            }
        }
        return best;
    }

    public int same() {
        if (!told.stands()) {
            return NO_SUCH;
        }
        int pairs = 0;
        for (int cause = 0; cause < told.causes; cause++) {
            for (int other = cause + 1; other < told.causes; other++) {
                boolean alike = now.latestBench(cause) == now.latestBench(other);
                pairs += now.isHeard(cause) && alike ? 1 : 0;
            }
        }
        return pairs;
    }

    public int gavel(int day) {
        return isHearingDay(day) ? now.sentencesOn(day) : NO_SUCH;
    }

    public int fresh(int cause) {
        return isCause(cause) ? told.motherBits() & ~now.satOf[cause] : NO_SUCH;
    }

    // ---- benches of mothers as strict as told ----

    public int benches() {
        return told.stands() ? panels.howMany() : NO_SUCH;
    }

    public int finds(int mother, int cause) {
        return isMother(mother) && isCause(cause) ? panels.alone(mother, cause) : NO_SUCH;
    }

    public int mild(int cause) {
        if (!isCause(cause)) {
            return NO_SUCH;
        }
        int set = panels.mildest(cause);
        return set == NONE ? NONE : panels.middleOf(set, cause);
    }

    public int milds(int cause) {
        return isCause(cause) ? panels.mildest(cause) : NO_SUCH;
    }

    public int harsh(int cause) {
        if (!isCause(cause)) {
            return NO_SUCH;
        }
        int set = panels.harshest(cause);
        return set == NONE ? NONE : panels.middleOf(set, cause);
    }

    public int harshes(int cause) {
        return isCause(cause) ? panels.harshest(cause) : NO_SUCH;
    }

    public int kind(int cause) {
        return isCause(cause) ? panels.kindest(cause) : NO_SUCH;
    }

    // ---- one thing otherwise ----

    public int plea(int cause) {
        if (!isCause(cause)) {
            return NO_SUCH;
        }
        int set = trial.bestSigns(cause);
        return set == NONE ? NONE : Integer.bitCount(set);
    }

    public int pleas(int cause) {
        return isCause(cause) ? trial.bestSigns(cause) : NO_SUCH;
    }

    public int when(int cause) {
        return isCause(cause) ? trial.bestDay(cause) : NO_SUCH;
    }

    public int blame() {
        return told.stands() ? trial.costliest(now) : NO_SUCH;
    }

    // ---- sentences seen ----

    public int fits(int slot, int mother) {
        int trouble = gatherSeen(slot, mother);
        return trouble != 0 ? trouble : seen.fitting;
    }

    public int low(int slot, int mother) {
        int trouble = gatherSeen(slot, mother);
        return trouble != 0 ? trouble : seen.least();
    }

    public int high(int slot, int mother) {
        int trouble = gatherSeen(slot, mother);
        return trouble != 0 ? trouble : seen.greatest();
    }

    public int ask(int slot, int mother) {
        int trouble = gatherSeen(slot, mother);
        return trouble != 0 ? trouble : seen.bestQuestion();
    }

    public int leaves(int slot, int mother) {
        int trouble = gatherSeen(slot, mother);
        if (trouble != 0) {
            return trouble;
        }
        int question = seen.bestQuestion();
        return question == NONE ? seen.fitting : seen.leftAtWorst(question);
    }

    public int laws(int slot) {
        if (!rows.isSlot(slot) || !told.stands()) {
            return NO_SUCH;
        }
        int trouble = rowTrouble(slot);
        return trouble != 0 ? trouble : seen.fittingLaws(slot);
    }

    // ---- laws, sets of mothers, two who may kneel ----

    public int by(int law) {
        if (!told.stands() || law < 0 || law >= LAWS) {
            return NO_SUCH;
        }
        return trial.totalByLaw(law);
    }

    public int law() {
        return told.stands() ? trial.mildestLaw() : NO_SUCH;
    }

    public int worth(int set) {
        if (!told.stands() || set < 0 || set > told.motherBits()) {
            return NO_SUCH;
        }
        trial.suppose();
        return trial.totalOfSet(set);
    }

    public int share(int mother, int what) {
        if (!isMother(mother) || what < 0 || what > 1) {
            return NO_SUCH_SHARE;
        }
        trial.shareOut(mother);
        return (int) trial.fraction.part(what);
    }

    public int rests(int cause, int other) {
        return areTwoCauses(cause, other) ? trial.restingPairs(cause, other) : NO_SUCH;
    }

    public int gets(int cause, int other, int kneels, int otherKneels) {
        if (!areTwoCauses(cause, other) || !isChoice(kneels) || !isChoice(otherKneels)) {
            return NO_SUCH_SIGNED;
        }
        trial.kneel(cause, other, kneels, otherKneels);
        return trial.gain(cause, kneels);
    }

    // ---- chance ----

    public int chance(int cause, int n, int what) {
        if (!isCause(cause) || n < 0 || n > MOST_SENTENCE || what < 0 || what > 1) {
            return NO_SUCH;
        }
        chances.ofSentence(cause, n);
        return (int) chances.fraction.part(what);
    }

    public long mean(int what) {
        if (!told.stands() || what < 0 || what > 1) {
            return NO_SUCH;
        }
        chances.ofTotal();
        return chances.fraction.part(what);
    }

    // ---- acts ----

    public int appeals(int cause, int day) {
        if (!isCause(cause) || !isHearingDay(day)) {
            return NO_SUCH;
        }
        if (!told.addAct(true, cause, day)) {
            return REFUSED;
        }
        refresh();
        return now.latestSentence(cause);
    }

    public int misses(int mother, int day) {
        if (!isMother(mother) || !isHearingDay(day)) {
            return NO_SUCH;
        }
        if (!told.addAct(false, mother, day)) {
            return REFUSED;
        }
        refresh();
        return now.causesHeard();
    }

    public int undo() {
        if (!told.stands()) {
            return NO_SUCH;
        }
        if (told.acts == 0) {
            return REFUSED;
        }
        told.acts--;
        refresh();
        return told.acts;
    }

    public int anew() {
        if (!told.stands()) {
            return NO_SUCH;
        }
        int were = told.acts;
        told.acts = 0;
        refresh();
        return were;
    }

    // ---- decades drawn ----

    public int drawn(int seed, int what) {
        if (!told.stands() || !chances.isSeed(seed) || what < 0 || what > 1) {
            return NO_SUCH;
        }
        int come = chances.draw(seed);
        return what == 0 ? come : chances.totalOf(come);
    }

    public int luck(int seed, int n, int cause) {
        if (!isCause(cause) || !chances.isSeed(seed) || n < 1 || n > 20) {
            return NO_SUCH;
        }
        return chances.decadesHeard(seed, n, cause);
    }

    public int rate(int cause, int n) {
        if (!isCause(cause) || n < 0 || n > MOST_SIGNS) {
            return NO_SUCH;
        }
        if (told.acts > 0) {
            return REFUSED;
        }
        int were = told.signs[cause];
        told.signs[cause] = n;
        refresh();
        return were;
    }

    // ---- counts, images, rows ----

    public int count(int what) {
        switch (what) {
            case 0: return told.days;
            case 1: return told.law;
            case 2: return told.odds;
            case 3: return told.mothers;
            case 4: return told.kinTold;
            case 5: return told.causes;
            case 6: return told.acts;
            case 7: return told.lines;
            case 8: return reader.size;
            case 9: return rows.howMany();
            default: return NONE;
        }
    }

    public int image(int k) {
        if (k < 0 || k >= IMAGES) {
            return NO_SUCH;
        }
        images[k].take(told);
        imaged |= 1 << k;
        return 0;
    }

    public int back(int k) {
        if (k < 0 || k >= IMAGES) {
            return NO_SUCH;
        }
        if ((imaged >> k & 1) == 0) {
            return NOTHING;
        }
        told.take(images[k]);
        refresh();
        return 0;
    }

    public int row(int slot, int width, int n) {
        if (!rows.isSlot(slot) || !rows.isWidth(width) || n > Rows.LONGEST) {
            return NO_SUCH;
        }
        if (n < 0) {
            return BELOW_ZERO;
        }
        rows.lay(slot, width, n);
        return 0;
    }

    public int write(int slot, int i, long v) {
        if (!rows.isSlot(slot)) {
            return NO_SUCH;
        }
        if (!rows.hasRow(slot)) {
            return NOTHING;
        }
        return rows.put(slot, i, v) ? 0 : BEYOND;
    }

    public int paste(int slot, int i, int to, int k, int n) {
        if (!rows.isSlot(slot) || !rows.isSlot(to)) {
            return NO_SUCH;
        }
        if (!rows.hasRow(slot) || !rows.hasRow(to)) {
            return NOTHING;
        }
        if (!rows.areOfOneWidth(slot, to)) {
            return UNLIKE;
        }
        return rows.move(slot, i, to, k, n) ? 0 : BEYOND;
    }

    // ---- what calls share ----

    /** Every call that changes the circuit or its acts ends here, so that 'now' is never stale. */
    private void refresh() {
        now.plan();
        now.hold(ALL_CAUSES, ALL_MOTHERS);
    }

    private boolean isMother(int mother) {
        return mother >= 0 && mother < told.mothers;
    }

    private boolean isCause(int cause) {
        return cause >= 0 && cause < told.causes;
    }

    private boolean areTwoCauses(int cause, int other) {
        return isCause(cause) && isCause(other) && cause != other;
    }

    private boolean isDay(int day) {
        return told.stands() && day >= 0 && day <= told.days;
    }

    private boolean isHearingDay(int day) {
        return day >= 0 && day < told.days;
    }

    private boolean isChoice(int kneels) {
        return kneels == 0 || kneels == 1;
    }

    /** Gathers the stricts that fit a slot's row; 0, or the answer if they can't be told. */
    private int gatherSeen(int slot, int mother) {
        if (!rows.isSlot(slot) || !isMother(mother)) {
            return NO_SUCH;
        }
        int trouble = rowTrouble(slot);
        if (trouble == 0) {
            seen.gather(slot, mother);
        }
        return trouble;
    }

    private int rowTrouble(int slot) {
        if (!rows.hasRow(slot)) {
            return NOTHING;
        }
        return seen.isReadable(slot) ? 0 : NO_SUCH;
    }

    /** What a text tells, and the acts done since: all that an image keeps. */
    private static final class Circuit {
        int lines;
        int days;
        int law;
        int odds;
        int mothers;
        int kinTold;
        int causes;
        int acts;
        final int[] strict = new int[MOST_MOTHERS];
        final int[] ways = new int[WAYS * MOST_MOTHERS];
        final int[] kin = new int[MOST_MOTHERS];
        final int[] weighs = new int[MOST_CAUSES];
        final int[] signs = new int[MOST_CAUSES];
        final int[] at = new int[MOST_CAUSES];
        /** 1 where an act is an appeal, 0 where a mother is away. */
        final int[] actAppeals = new int[MOST_ACTS];
        final int[] actWho = new int[MOST_ACTS];
        final int[] actDay = new int[MOST_ACTS];

        boolean stands() {
            return lines > 0;
        }

        void empty() {
            lines = 0;
            days = 0;
            law = 0;
            odds = 0;
            mothers = 0;
            kinTold = 0;
            causes = 0;
            acts = 0;
            Arrays.fill(kin, 0);
        }

        void take(Circuit from) {
            lines = from.lines;
            days = from.days;
            law = from.law;
            odds = from.odds;
            mothers = from.mothers;
            kinTold = from.kinTold;
            causes = from.causes;
            acts = from.acts;
            System.arraycopy(from.strict, 0, strict, 0, MOST_MOTHERS);
            System.arraycopy(from.ways, 0, ways, 0, WAYS * MOST_MOTHERS);
            System.arraycopy(from.kin, 0, kin, 0, MOST_MOTHERS);
            System.arraycopy(from.weighs, 0, weighs, 0, MOST_CAUSES);
            System.arraycopy(from.signs, 0, signs, 0, MOST_CAUSES);
            System.arraycopy(from.at, 0, at, 0, MOST_CAUSES);
            System.arraycopy(from.actAppeals, 0, actAppeals, 0, MOST_ACTS);
            System.arraycopy(from.actWho, 0, actWho, 0, MOST_ACTS);
            System.arraycopy(from.actDay, 0, actDay, 0, MOST_ACTS);
        }

        boolean addAct(boolean appeal, int who, int day) {
            if (acts >= MOST_ACTS) {
                return false;
            }
            actAppeals[acts] = appeal ? 1 : 0;
            actWho[acts] = who;
            actDay[acts] = day;
            acts++;
            return true;
        }

        int motherBits() {
            return (1 << mothers) - 1;
        }

        /** What a mother of a strictness finds of a cause. */
        int judge(int mother, int strictness, int cause) {
            int finding = strictness + weighs[cause];
            for (int bit = 0; bit < WAYS; bit++) {
                if ((signs[cause] >> bit & 1) != 0) {
                    finding -= ways[WAYS * mother + bit];
                }
            }
            return Math.max(0, finding);
        }
    }

    /** The tape, and how a circuit is read from it: the first fault ends the reading. */
    private static final class Reader {
        private static final int LONGEST = 700;
        private static final int FED = 20;
        private static final int END = 0;
        private static final int WORD = 1;
        private static final int NUMBER = 2;
        private static final int SIGN = 3;
        private static final int STRANGE = 4;
        /** Above every bound of the text, so that a long number only has to stay above it. */
        private static final int GREAT = 1000;

        private static final int MISPLACED = 1;
        private static final int UNBOUNDED = 2;
        private static final int TOO_MANY = 3;

        final byte[] tape = new byte[LONGEST];
        int size;
        int fault;
        int faultPlace = NONE;
        final Circuit draft = new Circuit();
        private int token;
        private int place;
        private int next;
        private int value;

        boolean hasRoom() {
            return size + FED <= LONGEST;
        }

        void append(int number) {
            for (int shift = 24; shift >= 0 && size < LONGEST; shift -= 8) {
                tape[size] = (byte) (number >> shift);
                size++;
            }
        }

        boolean read() {
            draft.empty();
            fault = 0;
            faultPlace = NONE;
            next = 0;
            step();
            for (int line = 0; line < LONGEST && token != END && fault == 0; line++) {
                readLine();
            }
            return fault == 0;
        }

        private void readLine() {
            if (draft.lines == 0) {
                readCircuit();
            } else if (isWord("mother")) {
                readMother();
            } else if (isWord("kin")) {
                readKin();
            } else if (isWord("cause")) {
                readCause();
            } else {
                accuse(MISPLACED, place);
            }
            if (fault == 0 && token != SIGN) {
                accuse(MISPLACED, place);
            }
            if (fault == 0) {
                draft.lines++;
                step();
            }
        }

        private void readCircuit() {
            takeWord("circuit");
            takeWord("days");
            draft.days = takeNumber(1, MOST_DAYS);
            takeWord("law");
            draft.law = takeNumber(0, LAWS - 1);
            takeWord("odds");
            draft.odds = takeNumber(0, 10);
        }

        private void readMother() {
            if (draft.mothers >= MOST_MOTHERS) {
                accuse(TOO_MANY, place);
                return;
            }
            int mother = draft.mothers;
            takeWord("mother");
            takeWord("strict");
            draft.strict[mother] = takeNumber(0, MOST_STRICT_TOLD);
            takeWord("ways");
            for (int way = 0; way < WAYS; way++) {
                draft.ways[WAYS * mother + way] = takeNumber(0, 20);
            }
            draft.mothers++;
        }

        private void readKin() {
            if (draft.kinTold >= MOST_KIN) {
                accuse(TOO_MANY, place);
                return;
            }
            takeWord("kin");
            int one = takeNumber(0, draft.mothers - 1);
            int otherPlace = place;
            int other = takeNumber(0, draft.mothers - 1);
            if (fault != 0) {
                return;
            }
            if (one == other || (draft.kin[one] >> other & 1) != 0) {
                accuse(UNBOUNDED, otherPlace);
                return;
            }
            draft.kin[one] |= 1 << other;
            draft.kin[other] |= 1 << one;
            draft.kinTold++;
        }

        private void readCause() {
            if (draft.causes >= MOST_CAUSES) {
                accuse(TOO_MANY, place);
                return;
            }
            int cause = draft.causes;
            takeWord("cause");
            takeWord("weighs");
            draft.weighs[cause] = takeNumber(0, 30);
            takeWord("signs");
            draft.signs[cause] = takeNumber(0, MOST_SIGNS);
            takeWord("at");
            draft.at[cause] = takeNumber(0, MOST_DAYS - 1);
            draft.causes++;
        }

        private void accuse(int what, int where) {
            if (fault == 0) {
                fault = what;
                faultPlace = where;
            }
        }

        private void takeWord(String word) {
            if (fault != 0) {
                return;
            }
            if (!isWord(word)) {
                accuse(MISPLACED, place);
                return;
            }
            step();
        }

        /** The number that stands here; 0 with a fault, by which the draft is never used. */
        private int takeNumber(int least, int greatest) {
            if (fault != 0) {
                return 0;
            }
            if (token != NUMBER) {
                accuse(MISPLACED, place);
                return 0;
            }
            if (value < least || value > greatest) {
                accuse(UNBOUNDED, place);
                return 0;
            }
            int taken = value;
            step();
            return taken;
        }

        private boolean isWord(String word) {
            if (token != WORD || next - place != word.length()) {
                return false;
            }
            for (int i = 0; i < word.length(); i++) {
                if (tape[place + i] != word.charAt(i)) {
                    return false;
                }
            }
            return true;
        }

        /** To the next token; one that is none is found as such and accused when it is looked at. */
        private void step() {
            while (next < size && isBlank(tape[next])) {
                next++;
            }
            place = next;
            if (next >= size) {
                token = END;
            } else if (isLetter(tape[next])) {
                stepWord();
            } else if (isDigit(tape[next])) {
                stepNumber();
            } else {
                token = tape[next] == ';' ? SIGN : STRANGE;
                next++;
            }
        }

        private void stepWord() {
            token = WORD;
            while (next < size && isLetter(tape[next])) {
                next++;
            }
        }

        private void stepNumber() {
            token = NUMBER;
            value = 0;
            while (next < size && isDigit(tape[next])) {
                value = Math.min(GREAT, 10 * value + tape[next] - '0');
                next++;
            }
        }

        private boolean isBlank(byte b) {
            return b == 32 || b == 10;
        }

        private boolean isLetter(byte b) {
            return b >= 'a' && b <= 'z';
        }

        private boolean isDigit(byte b) {
            return b >= '0' && b <= '9';
        }
    }

    /**
     * The hearings of a circuit, as they come. plan() looks at days and acts, hold() at all
     * else: whoever changes a day or an act plans anew, whoever changes another thing only holds.
     */
    private static final class Court {
        private final Circuit told;
        private int events;
        private final int[] eventCause = new int[MOST_HEARINGS];
        private final int[] eventDay = new int[MOST_HEARINGS];
        private final int[] eventAppeals = new int[MOST_HEARINGS];
        private final int[] away = new int[MOST_DAYS];
        private int hearings;
        private final int[] hearingCause = new int[MOST_HEARINGS];
        private final int[] hearingDay = new int[MOST_HEARINGS];
        private final int[] hearingBench = new int[MOST_HEARINGS];
        private final int[] hearingSentence = new int[MOST_HEARINGS];
        private final int[] findings = new int[BENCH * MOST_HEARINGS];
        /** The number of a cause's latest hearing; NONE where it has none. */
        private final int[] latest = new int[MOST_CAUSES];
        final int[] often = new int[MOST_CAUSES];
        final int[] satOf = new int[MOST_CAUSES];
        private final int[] strictNow = new int[MOST_MOTHERS];
        private final int[] satNow = new int[MOST_MOTHERS];
        private final int[] strictByDay = new int[MOST_MOTHERS * (MOST_DAYS + 1)];
        private final int[] satByDay = new int[MOST_MOTHERS * (MOST_DAYS + 1)];

        Court(Circuit told) {
            this.told = told;
        }

        void plan() {
            events = 0;
            for (int day = 0; day < told.days; day++) {
                away[day] = 0;
                for (int cause = 0; cause < told.causes; cause++) {
                    if (told.at[cause] == day) {
                        addEvent(cause, day, 0);
                    }
                }
                for (int act = 0; act < told.acts; act++) {
                    if (told.actDay[act] != day) {
                        continue;
                    }
                    if (told.actAppeals[act] == 1) {
                        addEvent(told.actWho[act], day, 1);
                    } else {
                        away[day] |= 1 << told.actWho[act];
                    }
                }
            }
        }

        private void addEvent(int cause, int day, int appeals) {
            if (events < MOST_HEARINGS) {
                eventCause[events] = cause;
                eventDay[events] = day;
                eventAppeals[events] = appeals;
                events++;
            }
        }

        /** All hearings, with those causes alone brought, and those mothers alone there (bits). */
        void hold(int brought, int there) {
            hearings = 0;
            Arrays.fill(latest, NONE);
            Arrays.fill(often, 0);
            Arrays.fill(satOf, 0);
            Arrays.fill(satNow, 0);
            System.arraycopy(told.strict, 0, strictNow, 0, MOST_MOTHERS);
            int present = there & told.motherBits();
            int event = 0;
            for (int day = 0; day <= told.days; day++) {
                System.arraycopy(strictNow, 0, strictByDay, MOST_MOTHERS * day, MOST_MOTHERS);
                System.arraycopy(satNow, 0, satByDay, MOST_MOTHERS * day, MOST_MOTHERS);
                for (; event < events && eventDay[event] == day; event++) {
                    int cause = eventCause[event];
                    boolean comes = (brought >> cause & 1) != 0 && (eventAppeals[event] == 0 || isHeard(cause));
                    int bench = comes ? choose(present & ~away[day] & ~satOf[cause]) : 0;
                    if (bench != 0 && hearings < MOST_HEARINGS) {
                        hear(cause, day, bench);
                    }
                }
            }
        }

        /** Three of those who come, none kin to another; 0 if fewer sit. */
        private int choose(int coming) {
            int bench = 0;
            int left = coming;
            for (int seat = 0; seat < BENCH; seat++) {
                int mother = leastBusy(left);
                if (mother == NONE) {
                    return 0;
                }
                bench |= 1 << mother;
                left &= ~(told.kin[mother] | 1 << mother);
            }
            return bench;
        }

        private int leastBusy(int bits) {
            int best = NONE;
            for (int mother = 0; mother < told.mothers; mother++) {
                if ((bits >> mother & 1) != 0 && (best == NONE || satNow[mother] < satNow[best])) {
                    best = mother;
                }
            }
            return best;
        }

        private void hear(int cause, int day, int bench) {
            int base = BENCH * hearings;
            int seat = 0;
            for (int mother = 0; mother < told.mothers && seat < BENCH; mother++) {
                if ((bench >> mother & 1) != 0) {
                    findings[base + seat] = told.judge(mother, strictNow[mother], cause);
                    seat++;
                }
            }
            int sentence = middleOfThree(findings[base], findings[base + 1], findings[base + 2]);
            hearingCause[hearings] = cause;
            hearingDay[hearings] = day;
            hearingBench[hearings] = bench;
            hearingSentence[hearings] = sentence;
            latest[cause] = hearings;
            often[cause]++;
            satOf[cause] |= bench;
            seat = 0;
            for (int mother = 0; mother < told.mothers && seat < BENCH; mother++) {
                if ((bench >> mother & 1) != 0) {
                    satNow[mother]++;
                    int change = changeByLaw(findings[base + seat], sentence, cause);
                    strictNow[mother] = Math.max(0, Math.min(MOST_STRICT, strictNow[mother] + change));
                    seat++;
                }
            }
            hearings++;
        }

        private int changeByLaw(int finding, int sentence, int cause) {
            switch (told.law) {
                case 1: return Integer.compare(sentence, finding);
                case 2: return told.signs[cause] == 0 ? 2 : 0;
                case 3: return Integer.compare(finding, sentence);
                default: return 0;
            }
        }

        // What the hearings tell of a cause.

        boolean isHeard(int cause) {
            return latest[cause] != NONE;
        }

        int causesHeard() {
            int heard = 0;
            for (int cause = 0; cause < told.causes; cause++) {
                heard += isHeard(cause) ? 1 : 0;
            }
            return heard;
        }

        int latestBench(int cause) {
            return isHeard(cause) ? hearingBench[latest[cause]] : 0;
        }

        int latestFound(int cause, int seat) {
            return isHeard(cause) ? findings[BENCH * latest[cause] + seat] : NONE;
        }

        int latestSentence(int cause) {
            return isHeard(cause) ? hearingSentence[latest[cause]] : NONE;
        }

        int latestDay(int cause) {
            return isHeard(cause) ? hearingDay[latest[cause]] : NONE;
        }

        int latestMiddle(int cause) {
            for (int mother = 0; mother < told.mothers && isHeard(cause); mother++) {
                int finding = findingOf(mother, latest[cause]);
                if (finding != NONE && finding == hearingSentence[latest[cause]]) {
                    return mother;
                }
            }
            return NONE;
        }

        int latestApart(int cause) {
            if (!isHeard(cause)) {
                return NONE;
            }
            int a = latestFound(cause, 0);
            int b = latestFound(cause, 1);
            int c = latestFound(cause, 2);
            return Math.max(a, Math.max(b, c)) - Math.min(a, Math.min(b, c));
        }

        int total() {
            int total = 0;
            for (int cause = 0; cause < told.causes; cause++) {
                total += Math.max(0, latestSentence(cause));
            }
            return total;
        }

        // What they tell of a mother.

        int strictIn(int mother, int day) {
            return strictByDay[MOST_MOTHERS * day + mother];
        }

        int satBy(int mother, int day) {
            return satByDay[MOST_MOTHERS * day + mother];
        }

        int causesOf(int mother) {
            int bits = 0;
            for (int cause = 0; cause < told.causes; cause++) {
                bits |= (satOf[cause] >> mother & 1) << cause;
            }
            return bits;
        }

        int firstCauseOf(int mother) {
            for (int hearing = 0; hearing < hearings; hearing++) {
                if ((hearingBench[hearing] >> mother & 1) != 0) {
                    return hearingCause[hearing];
                }
            }
            return NONE;
        }

        int agreements(int mother) {
            int times = 0;
            for (int hearing = 0; hearing < hearings; hearing++) {
                times += findingOf(mother, hearing) == hearingSentence[hearing] ? 1 : 0;
            }
            return times;
        }

        int findingsOf(int mother) {
            int together = 0;
            for (int hearing = 0; hearing < hearings; hearing++) {
                together += Math.max(0, findingOf(mother, hearing));
            }
            return together;
        }

        /** In how many hearings all of a set of mothers sat. */
        int hearingsOf(int set) {
            int times = 0;
            for (int hearing = 0; hearing < hearings; hearing++) {
                times += (hearingBench[hearing] & set) == set ? 1 : 0;
            }
            return times;
        }

        /** In how many hearings she found more (side 1) or less (side -1) than each other one. */
        int timesBeyondOthers(int mother, int side) {
            int times = 0;
            for (int hearing = 0; hearing < hearings; hearing++) {
                int hers = findingOf(mother, hearing);
                int passed = 0;
                for (int seat = 0; seat < BENCH && hers != NONE; seat++) {
                    passed += Integer.compare(hers, findings[BENCH * hearing + seat]) == side ? 1 : 0;
                }
                times += passed == BENCH - 1 ? 1 : 0;
            }
            return times;
        }

        /** What a mother found in a hearing; NONE if she did not sit. */
        private int findingOf(int mother, int hearing) {
            int bench = hearingBench[hearing];
            if ((bench >> mother & 1) == 0) {
                return NONE;
            }
            int seat = Integer.bitCount(bench & (1 << mother) - 1);
            return seat < BENCH ? findings[BENCH * hearing + seat] : NONE;
        }

        // What they tell of a day.

        int hearingsOn(int day) {
            int times = 0;
            for (int hearing = 0; hearing < hearings; hearing++) {
                times += hearingDay[hearing] == day ? 1 : 0;
            }
            return times;
        }

        int sentencesOn(int day) {
            int together = 0;
            for (int hearing = 0; hearing < hearings; hearing++) {
                together += hearingDay[hearing] == day ? hearingSentence[hearing] : 0;
            }
            return together;
        }

        /** By the latest hearing ahead of the day: an appeal yet to come changes nothing there. */
        int lettersOf(int cause, int day) {
            int letters = 0;
            for (int hearing = 0; hearing < hearings; hearing++) {
                if (hearingCause[hearing] == cause && hearingDay[hearing] < day) {
                    letters = hearingSentence[hearing] - (day - hearingDay[hearing] - 1);
                }
            }
            return Math.max(0, letters);
        }

        int lettersDue(int day) {
            int letters = 0;
            for (int cause = 0; cause < told.causes; cause++) {
                letters += lettersOf(cause, day);
            }
            return letters;
        }
    }

    /** Sets of three mothers, none kin to another, as strict as told. */
    private static final class Panels {
        private final Circuit told;
        private final int[] findings = new int[BENCH];

        Panels(Circuit told) {
            this.told = told;
        }

        int howMany() {
            int sets = 0;
            for (int set = 0; set <= told.motherBits(); set++) {
                sets += isPanel(set) ? 1 : 0;
            }
            return sets;
        }

        int alone(int mother, int cause) {
            return told.judge(mother, told.strict[mother], cause);
        }

        /** The least set whose middle finding is least; NONE if there is no set. */
        int mildest(int cause) {
            int best = NONE;
            int least = 0;
            for (int set = 0; set <= told.motherBits(); set++) {
                if (isPanel(set)) {
                    int here = middleOf(set, cause);
                    if (best == NONE || here < least) {
                        best = set;
                        least = here;
                    }
                }
            }
            return best;
        }

        /** The least set whose middle finding is greatest; NONE if there is no set. */
        int harshest(int cause) {
            int best = NONE;
            int greatest = 0;
            for (int set = 0; set <= told.motherBits(); set++) {
                if (isPanel(set)) {
                    int here = middleOf(set, cause);
                    if (best == NONE || here > greatest) {
                        best = set;
                        greatest = here;
                    }
                }
            }
            return best;
        }

        int kindest(int cause) {
            int best = NONE;
            int most = 0;
            for (int mother = 0; mother < told.mothers; mother++) {
                int here = letOff(mother, cause);
                if (here > most) {
                    most = here;
                    best = mother;
                }
            }
            return best;
        }

        private int letOff(int mother, int cause) {
            int sets = 0;
            for (int set = 0; set <= told.motherBits(); set++) {
                boolean sits = (set >> mother & 1) != 0;
                sets += sits && isPanel(set) && middleOf(set, cause) == 0 ? 1 : 0;
            }
            return sets;
        }

        private boolean isPanel(int set) {
            if (Integer.bitCount(set) != BENCH) {
                return false;
            }
            for (int mother = 0; mother < told.mothers; mother++) {
                if ((set >> mother & 1) != 0 && (told.kin[mother] & set) != 0) {
                    return false;
                }
            }
            return true;
        }

        /** The middle of what a set of three finds. */
        int middleOf(int set, int cause) {
            int seat = 0;
            for (int mother = 0; mother < told.mothers && seat < BENCH; mother++) {
                if ((set >> mother & 1) != 0) {
                    findings[seat] = alone(mother, cause);
                    seat++;
                }
            }
            return middleOfThree(findings[0], findings[1], findings[2]);
        }
    }

    /** A court for a circuit that is as told but for what is supposed. */
    private static final class Trial {
        private static final int KNEELING = 5;
        private static final int SHAME = 3;
        private static final int FREEDOM = 60;
        private static final int[] FACTORIALS = {1, 1, 2, 6, 24, 120, 720, 5040};

        final Circuit told;
        final Circuit supposed;
        final Court court;
        final Fraction fraction;
        private final int[] gains;
        private final int[] otherGains;

        Trial(Circuit told) {
            this.told = told;
            supposed = new Circuit();
            court = new Court(supposed);
            fraction = new Fraction();
            gains = new int[4];
            otherGains = new int[4];
        }

        void suppose() {
            supposed.take(told);
            court.plan();
        }

        /** The least of the fewest signs by which the sentence is least; NONE if it is never heard. */
        int bestSigns(int cause) {
            suppose();
            int best = NONE;
            int least = 0;
            for (int set = 0; set <= MOST_SIGNS; set++) {
                supposed.signs[cause] = set;
                court.hold(ALL_CAUSES, ALL_MOTHERS);
                int here = court.latestSentence(cause);
                if (here != NONE && (best == NONE || here < least
                        || here == least && Integer.bitCount(set) < Integer.bitCount(best))) {
                    best = set;
                    least = here;
                }
            }
            return best;
        }

        int bestDay(int cause) {
            suppose();
            int best = NONE;
            int least = 0;
            for (int day = 0; day < supposed.days; day++) {
                supposed.at[cause] = day;
                court.plan();
                court.hold(ALL_CAUSES, ALL_MOTHERS);
                int here = court.latestSentence(cause);
                if (here != NONE && (best == NONE || here < least)) {
                    best = day;
                    least = here;
                }
            }
            return best;
        }

        int costliest(Court now) {
            suppose();
            int best = NONE;
            int least = 0;
            for (int cause = 0; cause < supposed.causes; cause++) {
                court.hold(ALL_CAUSES & ~(1 << cause), ALL_MOTHERS);
                int here = court.total();
                int others = now.total() - Math.max(0, now.latestSentence(cause));
                if (here < others && (best == NONE || here < least)) {
                    best = cause;
                    least = here;
                }
            }
            return best;
        }

        int totalByLaw(int law) {
            suppose();
            supposed.law = law;
            court.hold(ALL_CAUSES, ALL_MOTHERS);
            return court.total();
        }

        int mildestLaw() {
            int best = 0;
            int least = totalByLaw(0);
            for (int law = 1; law < LAWS; law++) {
                int here = totalByLaw(law);
                if (here < least) {
                    best = law;
                    least = here;
                }
            }
            return best;
        }

        int totalOfSet(int set) {
            court.hold(ALL_CAUSES, set);
            return court.total();
        }

        /** The mean over all orders: a set stands ahead of her in so many orders of those in it and behind. */
        void shareOut(int mother) {
            suppose();
            int mothers = supposed.mothers;
            long together = 0;
            for (int set = 0; set <= supposed.motherBits(); set++) {
                if ((set >> mother & 1) != 0) {
                    continue;
                }
                int ahead = Integer.bitCount(set);
                long orders = (long) FACTORIALS[ahead] * FACTORIALS[mothers - 1 - ahead];
                together += orders * (totalOfSet(set | 1 << mother) - totalOfSet(set));
            }
            fraction.put(together, FACTORIALS[mothers]);
        }

        void kneel(int cause, int other, int kneels, int otherKneels) {
            suppose();
            supposed.weighs[cause] = Math.max(0, supposed.weighs[cause] - KNEELING * kneels);
            supposed.weighs[other] = Math.max(0, supposed.weighs[other] - KNEELING * otherKneels);
            court.hold(ALL_CAUSES, ALL_MOTHERS);
        }

        int gain(int cause, int kneels) {
            return FREEDOM - Math.max(0, court.latestSentence(cause)) - SHAME * kneels;
        }

        int restingPairs(int cause, int other) {
            for (int pair = 0; pair < 4; pair++) {
                kneel(cause, other, pair & 1, pair >> 1);
                gains[pair] = gain(cause, pair & 1);
                otherGains[pair] = gain(other, pair >> 1);
            }
            int bits = 0;
            for (int pair = 0; pair < 4; pair++) {
                boolean rests = gains[pair] >= gains[pair ^ 1] && otherGains[pair] >= otherGains[pair ^ 2];
                bits |= rests ? 1 << pair : 0;
            }
            return bits;
        }
    }

    /** What a row of sentences seen leaves open: how strict a mother was told, or by which law. */
    private static final class Seen {
        private final Trial trial;
        private final Rows rows;
        /** How many stricts fit, which, and the sentences by each. */
        int fitting;
        private final int[] stricts = new int[MOST_STRICT_TOLD + 1];
        private final int[] sentences = new int[MOST_CAUSES * (MOST_STRICT_TOLD + 1)];

        Seen(Trial trial, Rows rows) {
            this.trial = trial;
            this.rows = rows;
        }

        /** Whether a slot's row is of pairs of a cause and what may be its sentence. */
        boolean isReadable(int slot) {
            int length = rows.lengthOf(slot);
            for (int i = 0; i + 1 < length; i += 2) {
                long cause = rows.valueOf(slot, i);
                long sentence = rows.valueOf(slot, i + 1);
                if (cause < 0 || cause >= trial.told.causes || sentence < NONE || sentence > MOST_SENTENCE) {
                    return false;
                }
            }
            return length % 2 == 0;
        }

        void gather(int slot, int mother) {
            trial.suppose();
            fitting = 0;
            for (int strict = 0; strict <= MOST_STRICT_TOLD; strict++) {
                trial.supposed.strict[mother] = strict;
                trial.court.hold(ALL_CAUSES, ALL_MOTHERS);
                if (isAsSeen(slot)) {
                    stricts[fitting] = strict;
                    for (int cause = 0; cause < trial.told.causes; cause++) {
                        sentences[MOST_CAUSES * fitting + cause] = trial.court.latestSentence(cause);
                    }
                    fitting++;
                }
            }
        }

        private boolean isAsSeen(int slot) {
            for (int i = 0; i + 1 < rows.lengthOf(slot); i += 2) {
                int cause = (int) rows.valueOf(slot, i);
                if (trial.court.latestSentence(cause) != rows.valueOf(slot, i + 1)) {
                    return false;
                }
            }
            return true;
        }

        int least() {
            return fitting == 0 ? NONE : stricts[0];
        }

        int greatest() {
            return fitting == 0 ? NONE : stricts[fitting - 1];
        }

        int bestQuestion() {
            int best = NONE;
            int least = fitting;
            for (int cause = 0; cause < trial.told.causes; cause++) {
                int here = leftAtWorst(cause);
                if (here < least) {
                    best = cause;
                    least = here;
                }
            }
            return best;
        }

        /** How many of those that fit have one and the same sentence of a cause, at most. */
        int leftAtWorst(int cause) {
            int worst = 0;
            for (int one = 0; one < fitting; one++) {
                int alike = 0;
                for (int other = one; other < fitting; other++) {
                    alike += sentences[MOST_CAUSES * one + cause] == sentences[MOST_CAUSES * other + cause] ? 1 : 0;
                }
                worst = Math.max(worst, alike);
            }
            return worst;
        }

        int fittingLaws(int slot) {
            trial.suppose();
            int bits = 0;
            for (int law = 0; law < LAWS; law++) {
                trial.supposed.law = law;
                trial.court.hold(ALL_CAUSES, ALL_MOTHERS);
                bits |= isAsSeen(slot) ? 1 << law : 0;
            }
            return bits;
        }
    }

    /** Causes that come by odds, and decades drawn from seeds. */
    private static final class Chances {
        private static final int TEN = 10;
        private static final int MOST_SEED = 2000000000;
        private static final long FACTOR = 1103515245L;
        private static final long MORE = 12345L;
        private static final long MODULUS = 2147483648L;
        private static final long CUT = 65536L;

        private final Trial trial;
        final Fraction fraction;

        Chances(Trial trial) {
            this.trial = trial;
            fraction = new Fraction();
        }

        void ofSentence(int cause, int n) {
            trial.suppose();
            long together = 0;
            for (int brought = 0; brought < 1 << trial.told.causes; brought++) {
                long weight = weightOf(brought);
                if (weight != 0 && (brought >> cause & 1) != 0) {
                    trial.court.hold(brought, ALL_MOTHERS);
                    together += trial.court.latestSentence(cause) >= n ? weight : 0;
                }
            }
            fraction.put(together, weightOfAll());
        }

        void ofTotal() {
            trial.suppose();
            long together = 0;
            for (int brought = 0; brought < 1 << trial.told.causes; brought++) {
                long weight = weightOf(brought);
                if (weight != 0) {
                    trial.court.hold(brought, ALL_MOTHERS);
                    together += weight * trial.court.total();
                }
            }
            fraction.put(together, weightOfAll());
        }

        private long weightOf(int brought) {
            long weight = 1;
            for (int cause = 0; cause < trial.told.causes; cause++) {
                weight *= (brought >> cause & 1) != 0 ? trial.told.odds : TEN - trial.told.odds;
            }
            return weight;
        }

        private long weightOfAll() {
            long weight = 1;
            for (int cause = 0; cause < trial.told.causes; cause++) {
                weight *= TEN;
            }
            return weight;
        }

        boolean isSeed(int seed) {
            return seed >= 0 && seed <= MOST_SEED;
        }

        /** The causes that come in the decade drawn from a seed, as bits. */
        int draw(int seed) {
            long x = seed;
            int come = 0;
            for (int cause = 0; cause < trial.told.causes; cause++) {
                x = (FACTOR * x + MORE) % MODULUS;
                come |= x / CUT % TEN < trial.told.odds ? 1 << cause : 0;
            }
            return come;
        }

        int totalOf(int brought) {
            trial.suppose();
            trial.court.hold(brought, ALL_MOTHERS);
            return trial.court.total();
        }

        int decadesHeard(int seed, int n, int cause) {
            trial.suppose();
            int times = 0;
            for (int i = 0; i < n; i++) {
                trial.court.hold(draw(seed + i), ALL_MOTHERS);
                times += trial.court.isHeard(cause) ? 1 : 0;
            }
            return times;
        }
    }

    /** A fraction in lowest terms, its sign above. */
    private static final class Fraction {
        private long above;
        private long below = 1;

        /** below is above 0 for every caller. */
        void put(long newAbove, long newBelow) {
            long divisor = Math.max(1, greatestDivisor(Math.abs(newAbove), newBelow));
            above = newAbove / divisor;
            below = newBelow / divisor;
        }

        long part(int what) {
            return what == 0 ? above : below;
        }

        private long greatestDivisor(long one, long other) {
            long a = one;
            long b = other;
            for (int i = 0; i < 200 && b != 0; i++) {
                long rest = a % b;
                a = b;
                b = rest;
            }
            return a;
        }
    }

    /** The slots and their rows; numbers are kept as they are once cut to their width. */
    private static final class Rows {
        static final int LONGEST = 60;
        private static final int SLOTS = 4;
        private static final int WIDTHS = 4;

        private final long[] values = new long[SLOTS * LONGEST];
        private final int[] widths = new int[SLOTS];
        /** NONE where a slot has nothing. */
        private final int[] lengths = {NONE, NONE, NONE, NONE};

        boolean isSlot(int slot) {
            return slot >= 0 && slot < SLOTS;
        }

        boolean isWidth(int width) {
            return width >= 0 && width < WIDTHS;
        }

        boolean hasRow(int slot) {
            return lengths[slot] != NONE;
        }

        boolean areOfOneWidth(int slot, int other) {
            return widths[slot] == widths[other];
        }

        int howMany() {
            int slots = 0;
            for (int slot = 0; slot < SLOTS; slot++) {
                slots += hasRow(slot) ? 1 : 0;
            }
            return slots;
        }

        int lengthOf(int slot) {
            return Math.max(0, lengths[slot]);
        }

        long valueOf(int slot, int i) {
            return values[LONGEST * slot + i];
        }

        void lay(int slot, int width, int n) {
            widths[slot] = width;
            lengths[slot] = n;
            for (int i = 0; i < n && i < LONGEST; i++) {
                values[LONGEST * slot + i] = 0;
            }
        }

        boolean put(int slot, int i, long v) {
            if (i < 0 || i >= lengths[slot]) {
                return false;
            }
            values[LONGEST * slot + i] = cut(v, widths[slot]);
            return true;
        }

        boolean move(int slot, int i, int to, int k, int n) {
            if (!holds(slot, i, n) || !holds(to, k, n)) {
                return false;
            }
            System.arraycopy(values, LONGEST * slot + i, values, LONGEST * to + k, n);
            return true;
        }

        private boolean holds(int slot, int i, int n) {
            return i >= 0 && n >= 0 && (long) i + n <= lengths[slot];
        }

        private long cut(long v, int width) {
            switch (width) {
                case 0: return (byte) v;
                case 1: return (short) v;
                case 2: return (int) v;
                default: return v;
            }
        }
    }

    private static int middleOfThree(int a, int b, int c) {
        return Math.max(Math.min(a, b), Math.min(Math.max(a, b), c));
    }
}
