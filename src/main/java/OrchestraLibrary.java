/**
 * A library of an orchestra: editions of works, parts, loans, boxes, commands read from texts, undo and a snapshot.
 *
 * All rows are made by the constructor and used again by every call, so that no call makes an object.
 */
public final class OrchestraLibrary {
    public static final int NONE = -1;
    public static final int BAD = -2;
    public static final int STATE = -3;
    public static final int FULL = -4;
    public static final int REFUSED = -5;
    public static final int UNLIKE = -6;
    public static final int NOTHING = -7;

    private static final int WORKS = 4;
    private static final int MAX_EDITIONS = 6;
    private static final int MAX_BARS = 99;
    private static final int MAX_BEATS = 9;
    private static final int MIN_TENTHS = 200;
    private static final int MAX_TENTHS = 2500;
    private static final int USUAL_TENTHS = 1000;
    private static final int INSTRUMENTS = 6;
    private static final int STRINGS = 4;
    private static final int MAX_PLAYERS = 20;
    private static final int MAX_COPIES = 30;
    private static final int MAX_BOWING = 4;
    private static final int BORROWERS = 6;
    private static final int MAX_LOANS = 20;
    private static final int MAX_DAYS = 999;
    private static final int LAST_DAY = 9999;
    private static final int MAX_DAILY_FEE = 20;
    private static final int FEE_FOR_BAD = 50;
    private static final int BOXES = 3;
    private static final int MAX_PLACES = 8;
    private static final int SCORE = -1;
    private static final int SORT_ALL = 0;
    private static final int SORT_SCORES = 1;
    private static final int SORT_PARTS = 2;
    private static final int SORT_STRINGS = 3;
    private static final int FIRST_SIGN = 32;
    private static final int LAST_SIGN = 126;
    private static final int MAX_INPUT = 60;
    private static final int MAX_NUMBERS = 5;
    private static final int MAX_CHANGES = 8;

    /** The numbers of copies, as stock counts them. */
    private static final int ALL_COPIES = 0;
    private static final int COPIES_IN = 1;
    private static final int COPIES_OUT = 2;
    private static final int COPIES_LOST = 3;

    /** The numbers of loans, as borrower counts them. */
    private static final int LOANS_OUT = 0;
    private static final int LOANS_LOST = 1;
    private static final int LOANS_FEES = 2;
    private static final int LOANS_OVERDUE = 3;

    /** The kinds of differences. */
    private static final int ONE_SIDE = 1;
    private static final int OTHER_SIDE = 2;
    private static final int REWORKED = 3;

    /** The reasons of refusals. */
    private static final int TOO_FEW_IN = 1;
    private static final int HAS_OVERDUE = 2;
    private static final int TOO_MANY_LOANS = 3;
    private static final int COPIES_BOUGHT = 4;
    private static final int MORE_THAN_OUT = 5;
    private static final int NO_PLAYERS = 6;

    private final Holdings now;
    private final Holdings snapshot;
    private final History history;
    private final Comparison comparison;
    private final BowingCopier copier;
    private final Box[] boxes;
    private final CommandText input;
    private boolean hasSnapshot;
    private int latestFault;
    private int latestFailed;
    private int latestReason;

    public OrchestraLibrary() {
        now = new Holdings();
        snapshot = new Holdings();
        history = new History();
        comparison = new Comparison();
        copier = new BowingCopier();
        boxes = new Box[BOXES];
        for (int i = 0; i < BOXES; i++) {
            boxes[i] = new Box();
        }
        input = new CommandText();
        hasSnapshot = false;
        latestFault = NOTHING;
        latestFailed = NOTHING;
        latestReason = NOTHING;
    }

    // ---- Editions ----

    public int edition(int work, int bars, int beats) {
        if (!within(work, 0, WORKS - 1)) {
            return NONE;
        }
        if (!within(bars, 1, MAX_BARS) || !within(beats, 1, MAX_BEATS)) {
            return BAD;
        }
        if (now.hasWork(work)) {
            return STATE;
        }
        if (now.editionCount >= MAX_EDITIONS) {
            return FULL;
        }
        history.keep(now);
        return now.addFirst(work, bars, beats);
    }

    public int derive(int model) {
        if (!isEdition(model)) {
            return NONE;
        }
        if (now.editionCount >= MAX_EDITIONS) {
            return FULL;
        }
        history.keep(now);
        return now.addCopy(model);
    }

    public int cut(int edition, int from, int to) {
        history.prepare(now);
        return settle(cutBars(edition, from, to));
    }

    private int cutBars(int edition, int from, int to) {
        if (!isBar(edition, from) || !isBar(edition, to)) {
            return NONE;
        }
        Edition changed = now.editions[edition];
        if (to < from || to - from + 1 >= changed.bars) {
            return BAD;
        }
        if (changed.isBought()) {
            return refuse(COPIES_BOUGHT);
        }
        changed.removeBars(from, to);
        return changed.bars;
    }

    public int insert(int edition, int behind, int count, int beats) {
        history.prepare(now);
        return settle(insertBars(edition, behind, count, beats));
    }

    private int insertBars(int edition, int behind, int count, int beats) {
        if (!isEdition(edition) || !within(behind, 0, now.editions[edition].bars)) {
            return NONE;
        }
        if (!within(count, 1, MAX_BARS) || !within(beats, 1, MAX_BEATS)) {
            return BAD;
        }
        Edition changed = now.editions[edition];
        if (changed.bars + count > MAX_BARS) {
            return FULL;
        }
        if (changed.isBought()) {
            return refuse(COPIES_BOUGHT);
        }
        changed.addBars(behind, count, beats, now.greatestOrigins[changed.work]);
        now.greatestOrigins[changed.work] += count;
        return changed.bars;
    }

    public int rework(int edition, int bar, int beats) {
        history.prepare(now);
        return settle(reworkBar(edition, bar, beats));
    }

    private int reworkBar(int edition, int bar, int beats) {
        if (!isBar(edition, bar)) {
            return NONE;
        }
        if (!within(beats, 1, MAX_BEATS)) {
            return BAD;
        }
        Edition changed = now.editions[edition];
        if (changed.isBought()) {
            return refuse(COPIES_BOUGHT);
        }
        now.greatestVersions[changed.work]++;
        changed.versions[bar] = now.greatestVersions[changed.work];
        changed.beats[bar] = beats;
        return changed.versions[bar];
    }

    public int ofEdition(int edition, int what) {
        if (!isEdition(edition)) {
            return NONE;
        }
        Edition asked = now.editions[edition];
        switch (what) {
            case 0:
                return asked.work;
            case 1:
                return asked.bars;
            case 2:
                return asked.model;
            case 3:
                return now.copiesOfModel(edition);
            case 4:
                return asked.copiesInAll(ALL_COPIES);
            case 5:
                return asked.bowingsInAll();
            case 6:
                return asked.ownTempos();
            default:
                return NONE;
        }
    }

    public int bar(int edition, int bar, int what) {
        if (!isBar(edition, bar)) {
            return NONE;
        }
        Edition asked = now.editions[edition];
        switch (what) {
            case 0:
                return asked.origins[bar];
            case 1:
                return asked.versions[bar];
            case 2:
                return asked.beats[bar];
            case 3:
                return asked.ownTempo(bar);
            case 4:
                return asked.countingTempo(bar);
            default:
                return NONE;
        }
    }

    // ---- Carrying and differences ----

    public int carry(int from, int bar, int to) {
        if (!isBar(from, bar) || !isEdition(to)) {
            return NONE;
        }
        if (!areOfOneWork(from, to)) {
            return BAD;
        }
        int there = now.editions[to].barWith(now.editions[from].origins[bar], 1);
        return there == 0 ? NOTHING : there;
    }

    public int compare(int one, int other, int what) {
        if (!isEdition(one) || !isEdition(other) || !within(what, 0, 4)) {
            return NONE;
        }
        if (!areOfOneWork(one, other)) {
            return BAD;
        }
        comparison.trace(now.editions[one], now.editions[other]);
        switch (what) {
            case 0:
                return comparison.facing;
            case 1:
                return comparison.sameVersions;
            case 2:
                return now.editions[one].bars - comparison.facing;
            case 3:
                return now.editions[other].bars - comparison.facing;
            default:
                return comparison.runs;
        }
    }

    public int difference(int one, int other, int index, int what) {
        if (!isEdition(one) || !isEdition(other) || index < 0 || !within(what, 0, 3)) {
            return NONE;
        }
        if (!areOfOneWork(one, other)) {
            return BAD;
        }
        comparison.trace(now.editions[one], now.editions[other]);
        if (index >= comparison.runs) {
            return NOTHING;
        }
        switch (what) {
            case 0:
                return comparison.kinds[index];
            case 1:
                return comparison.ones[index];
            case 2:
                return comparison.others[index];
            default:
                return comparison.lengths[index];
        }
    }

    // ---- Tempos ----

    public int tempo(int edition, int bar, int tenths) {
        history.prepare(now);
        return settle(setTempo(edition, bar, tenths));
    }

    private int setTempo(int edition, int bar, int tenths) {
        if (!isBar(edition, bar)) {
            return NONE;
        }
        if (tenths != 0 && !within(tenths, MIN_TENTHS, MAX_TENTHS)) {
            return BAD;
        }
        int before = now.editions[edition].ownTempo(bar);
        now.editions[edition].tempos[bar] = tenths;
        return before;
    }

    public int seconds(int edition, int from, int to) {
        if (!isBar(edition, from) || !isBar(edition, to)) {
            return NONE;
        }
        if (to < from) {
            return BAD;
        }
        return bitsOf(now.editions[edition].duration(from, to));
    }

    public int length(int edition) {
        if (!isEdition(edition)) {
            return NONE;
        }
        return (int) now.editions[edition].wholeDuration();
    }

    public int barAt(int edition, int second) {
        if (!isEdition(edition)) {
            return NONE;
        }
        if (second < 0) {
            return BAD;
        }
        int found = now.editions[edition].firstBarBeyond((float) second);
        return found == 0 ? NOTHING : found;
    }

    public int pace(int edition) {
        if (!isEdition(edition)) {
            return NONE;
        }
        Edition asked = now.editions[edition];
        return bitsOf((float) asked.beatsInAll() * 60.0f / asked.wholeDuration());
    }

    /** The bits of a float from 2^-126 upwards, taken from its value, as Float is not in the library allowed. */
    private static int bitsOf(float value) {
        float scaled = value;
        int exponent = 127;
        // Halving and doubling are exact, so that the 24 bits of the value stay as they are.
        for (int i = 0; i < 127 && scaled >= 2.0f; i++) {
            scaled = scaled / 2.0f;
            exponent++;
        }
        for (int i = 0; i < 126 && scaled < 1.0f; i++) {
            scaled = scaled * 2.0f;
            exponent--;
        }
        int withLeadingOne = (int) (scaled * 8388608.0f);
        return (exponent << 23) | (withLeadingOne & 0x7FFFFF);
    }

    // ---- Parts ----

    public int seat(int instrument, int players) {
        if (!isInstrument(instrument)) {
            return NONE;
        }
        if (!within(players, 0, MAX_PLAYERS)) {
            return BAD;
        }
        history.keep(now);
        int before = now.players[instrument];
        now.players[instrument] = players;
        return before;
    }

    public int needs(int instrument) {
        return isInstrument(instrument) ? now.desks(instrument) : NONE;
    }

    public int buy(int edition, int instrument, int copies) {
        if (!isEdition(edition) || !isInstrument(instrument)) {
            return NONE;
        }
        if (!within(copies, 1, MAX_COPIES)) {
            return BAD;
        }
        Edition bought = now.editions[edition];
        if (bought.copies(instrument, ALL_COPIES) + copies > MAX_COPIES) {
            return FULL;
        }
        history.keep(now);
        bought.copiesIn[instrument] += copies;
        return bought.copies(instrument, ALL_COPIES);
    }

    public int stock(int edition, int instrument, int what) {
        if (!isEdition(edition) || !isInstrument(instrument)) {
            return NONE;
        }
        return within(what, ALL_COPIES, COPIES_LOST) ? now.editions[edition].copies(instrument, what) : NONE;
    }

    // ---- Bowings ----

    public int bow(int edition, int instrument, int bar, int bowing) {
        history.prepare(now);
        return settle(setBowing(edition, instrument, bar, bowing));
    }

    private int setBowing(int edition, int instrument, int bar, int bowing) {
        if (!isBar(edition, bar) || !isString(instrument)) {
            return NONE;
        }
        if (!within(bowing, 0, MAX_BOWING)) {
            return BAD;
        }
        int[] row = now.editions[edition].bowings[instrument];
        int before = row[bar];
        row[bar] = bowing;
        return before;
    }

    public int bowing(int edition, int instrument, int bar) {
        if (!isBar(edition, bar) || !isString(instrument)) {
            return NONE;
        }
        return now.editions[edition].bowings[instrument][bar];
    }

    public int copyBowings(int from, int to, int instrument, int mode) {
        if (!isEdition(from) || !isEdition(to) || !isString(instrument)) {
            return NONE;
        }
        if (from == to || !areOfOneWork(from, to) || !within(mode, 0, 1)) {
            return BAD;
        }
        history.keep(now);
        copier.copyRow(now.editions[from], now.editions[to], instrument, mode == 1);
        return copier.put;
    }

    public int copied(int what) {
        if (!within(what, 0, 3)) {
            return NONE;
        }
        if (!copier.hasCopied) {
            return NOTHING;
        }
        switch (what) {
            case 0:
                return copier.put;
            case 1:
                return copier.dropped;
            case 2:
                return copier.clashes;
            default:
                return copier.doubtful;
        }
    }

    // ---- Loans ----

    public int lend(int borrower, int edition, int instrument, int copies, int days) {
        history.prepare(now);
        return settle(lendPart(borrower, edition, instrument, copies, days));
    }

    private int lendPart(int borrower, int edition, int instrument, int copies, int days) {
        if (!isBorrower(borrower) || !isEdition(edition) || !isInstrument(instrument)) {
            return NONE;
        }
        if (!within(copies, 1, MAX_COPIES) || !within(days, 0, MAX_DAYS)) {
            return BAD;
        }
        if (copies > now.editions[edition].copiesIn[instrument]) {
            return refuse(TOO_FEW_IN);
        }
        if (now.sumOfLoans(borrower, LOANS_OVERDUE) > 0) {
            return refuse(HAS_OVERDUE);
        }
        if (now.loanCount >= MAX_LOANS) {
            return refuse(TOO_MANY_LOANS);
        }
        return now.addLoan(borrower, edition, instrument, copies, days);
    }

    public int lendAll(int borrower, int edition, int days) {
        if (!isBorrower(borrower) || !isEdition(edition)) {
            return NONE;
        }
        if (!within(days, 0, MAX_DAYS)) {
            return BAD;
        }
        int wanted = now.instrumentsWithPlayers();
        if (wanted == 0) {
            return refuse(NO_PLAYERS);
        }
        if (!now.hasAllNeeded(edition)) {
            return refuse(TOO_FEW_IN);
        }
        if (now.sumOfLoans(borrower, LOANS_OVERDUE) > 0) {
            return refuse(HAS_OVERDUE);
        }
        if (now.loanCount + wanted > MAX_LOANS) {
            return refuse(TOO_MANY_LOANS);
        }
        history.keep(now);
        now.addLoansOfAllNeeded(borrower, edition, days);
        return wanted;
    }

    public int bring(int loan, int good, int bad) {
        history.prepare(now);
        return settle(bringBack(loan, good, bad));
    }

    private int bringBack(int loan, int good, int bad) {
        if (!isLoan(loan)) {
            return NONE;
        }
        if (!within(good, 0, MAX_COPIES) || !within(bad, 0, MAX_COPIES) || good + bad == 0) {
            return BAD;
        }
        if (good + bad > now.loans[loan].out) {
            return refuse(MORE_THAN_OUT);
        }
        return now.takeBack(loan, good, bad);
    }

    public int loan(int loan, int what) {
        if (!isLoan(loan)) {
            return NONE;
        }
        Loan asked = now.loans[loan];
        switch (what) {
            case 0:
                return asked.borrower;
            case 1:
                return asked.edition;
            case 2:
                return asked.instrument;
            case 3:
                return asked.lent;
            case 4:
                return asked.out;
            case 5:
                return asked.due;
            case 6:
                return asked.fees;
            case 7:
                return asked.isOverdue(now.day) ? 1 : 0;
            default:
                return NONE;
        }
    }

    public int overdue(int place) {
        return place < 0 ? NONE : now.overdueLoanAt(place);
    }

    public int borrower(int borrower, int what) {
        if (!isBorrower(borrower) || !within(what, LOANS_OUT, LOANS_OVERDUE)) {
            return NONE;
        }
        return now.sumOfLoans(borrower, what);
    }

    public int pass(int days) {
        if (!within(days, 1, MAX_DAYS)) {
            return BAD;
        }
        if (now.day + days > LAST_DAY) {
            return FULL;
        }
        history.keep(now);
        now.day += days;
        return now.day;
    }

    // ---- Boxes ----

    public int box(int box, int sort, int places) {
        if (!isBox(box)) {
            return NONE;
        }
        if (!within(sort, SORT_ALL, SORT_STRINGS) || !within(places, 0, MAX_PLACES)) {
            return BAD;
        }
        int before = boxes[box].things();
        boxes[box].makeAnew(sort, places);
        return before;
    }

    public int put(int box, int place, int edition, int instrument) {
        if (!isPlace(box, place) || !isEdition(edition)) {
            return NONE;
        }
        if (instrument != SCORE && !isInstrument(instrument)) {
            return NONE;
        }
        Box filled = boxes[box];
        if (!filled.takes(instrument)) {
            return UNLIKE;
        }
        boolean wasEmpty = filled.isEmptyAt(place);
        filled.editions[place] = edition;
        filled.instruments[place] = instrument;
        return wasEmpty ? 1 : 0;
    }

    public int look(int box, int place, int what) {
        if (!isPlace(box, place) || !within(what, 0, 1)) {
            return NONE;
        }
        if (boxes[box].isEmptyAt(place)) {
            return NOTHING;
        }
        return what == 0 ? boxes[box].editions[place] : boxes[box].instruments[place];
    }

    public int likeBox(int from, int to) {
        if (!isBox(from) || !isBox(to)) {
            return NONE;
        }
        boxes[to].becomeLike(boxes[from]);
        return boxes[to].things();
    }

    // ---- Texts ----

    public int append(int c) {
        if (!within(c, FIRST_SIGN, LAST_SIGN)) {
            return BAD;
        }
        if (input.length >= MAX_INPUT) {
            return FULL;
        }
        input.add((char) c);
        return input.length;
    }

    public int read() {
        latestFault = input.parse();
        input.length = 0;
        if (latestFault != NOTHING) {
            return BAD;
        }
        history.prepare(now);
        for (int i = 0; i < input.commands; i++) {
            if (isError(carryOut(i))) {
                latestFailed = i;
                history.takeBack(now);
                return STATE;
            }
        }
        history.commit();
        return input.commands;
    }

    private int carryOut(int command) {
        int[] numbers = input.numbers[command];
        switch (input.letters[command]) {
            case 'c':
                return cutBars(numbers[0], numbers[1], numbers[2]);
            case 'i':
                return insertBars(numbers[0], numbers[1], numbers[2], numbers[3]);
            case 'w':
                return reworkBar(numbers[0], numbers[1], numbers[2]);
            case 't':
                return setTempo(numbers[0], numbers[1], numbers[2]);
            case 'b':
                return setBowing(numbers[0], numbers[1], numbers[2], numbers[3]);
            case 'l':
                return lendPart(numbers[0], numbers[1], numbers[2], numbers[3], numbers[4]);
            default:
                return bringBack(numbers[0], numbers[1], numbers[2]);
        }
    }

    public int faultPosition() {
        return latestFault;
    }

    public int failed() {
        return latestFailed;
    }

    public int refusal() {
        return latestReason;
    }

    // ---- Accounts, undo and the snapshot ----

    public int count(int what) {
        switch (what) {
            case 0:
                return now.editionCount;
            case 1:
                return now.loanCount;
            case 2:
                return now.openLoans();
            case 3:
                return now.copiesInAll(ALL_COPIES);
            case 4:
                return now.copiesInAll(COPIES_IN);
            case 5:
                return now.copiesInAll(COPIES_OUT);
            case 6:
                return now.copiesInAll(COPIES_LOST);
            case 7:
                return now.feesInAll();
            case 8:
                return now.day;
            case 9:
                return history.size;
            case 10:
                return input.length;
            default:
                return NONE;
        }
    }

    public int undo() {
        if (history.size == 0) {
            return STATE;
        }
        history.goBack(now);
        return history.size;
    }

    public int save() {
        snapshot.becomeLike(now);
        hasSnapshot = true;
        return now.editionCount;
    }

    public int restore() {
        if (!hasSnapshot) {
            return STATE;
        }
        now.becomeLike(snapshot);
        history.size = 0;
        return now.editionCount;
    }

    // ---- What the calls share ----

    private int settle(int answer) {
        if (!isError(answer)) {
            history.commit();
        }
        return answer;
    }

    private int refuse(int reason) {
        latestReason = reason;
        return REFUSED;
    }

    private static boolean isError(int answer) {
        return answer < 0 && answer != NOTHING;
    }

    private static boolean within(int number, int least, int most) {
        return number >= least && number <= most;
    }

    private boolean isEdition(int edition) {
        return within(edition, 0, now.editionCount - 1);
    }

    private boolean isBar(int edition, int bar) {
        return isEdition(edition) && within(bar, 1, now.editions[edition].bars);
    }

    private boolean areOfOneWork(int one, int other) {
        return now.editions[one].work == now.editions[other].work;
    }

    private boolean isLoan(int loan) {
        return within(loan, 0, now.loanCount - 1);
    }

    private boolean isPlace(int box, int place) {
        return isBox(box) && within(place, 0, boxes[box].places - 1);
    }

    private static boolean isInstrument(int instrument) {
        return within(instrument, 0, INSTRUMENTS - 1);
    }

    private static boolean isString(int instrument) {
        return within(instrument, 0, STRINGS - 1);
    }

    private static boolean isBorrower(int borrower) {
        return within(borrower, 0, BORROWERS - 1);
    }

    private static boolean isBox(int box) {
        return within(box, 0, BOXES - 1);
    }

    /** An edition with its bars and the copies of its parts. The rows of bars begin with index 1, as bars do. */
    private static final class Edition {
        int work;
        int model;
        int bars;
        final int[] origins;
        final int[] versions;
        final int[] beats;
        /** Own tempos in tenths, 0 for none. */
        final int[] tempos;
        /** A row of bars for each string instrument, 0 for no bowing. */
        final int[][] bowings;
        final int[] copiesIn;
        final int[] copiesOut;
        final int[] copiesLost;

        Edition() {
            model = NOTHING;
            origins = new int[MAX_BARS + 1];
            versions = new int[MAX_BARS + 1];
            beats = new int[MAX_BARS + 1];
            tempos = new int[MAX_BARS + 1];
            bowings = new int[STRINGS][MAX_BARS + 1];
            copiesIn = new int[INSTRUMENTS];
            copiesOut = new int[INSTRUMENTS];
            copiesLost = new int[INSTRUMENTS];
        }

        void becomeFirst(int ofWork, int newBars, int newBeats) {
            work = ofWork;
            model = NOTHING;
            bars = newBars;
            fillNewBars(1, newBars, newBeats, 1);
            clearCopies();
        }

        void becomeCopy(Edition source, int sourceNumber) {
            becomeLike(source);
            model = sourceNumber;
            clearCopies();
        }

        /** Bars behind the last one are never read, so they are not copied. */
        void becomeLike(Edition source) {
            work = source.work;
            model = source.model;
            bars = source.bars;
            copyRow(source.origins, origins);
            copyRow(source.versions, versions);
            copyRow(source.beats, beats);
            copyRow(source.tempos, tempos);
            for (int i = 0; i < STRINGS; i++) {
                copyRow(source.bowings[i], bowings[i]);
            }
            System.arraycopy(source.copiesIn, 0, copiesIn, 0, INSTRUMENTS);
            System.arraycopy(source.copiesOut, 0, copiesOut, 0, INSTRUMENTS);
            System.arraycopy(source.copiesLost, 0, copiesLost, 0, INSTRUMENTS);
        }

        private void copyRow(int[] source, int[] target) {
            System.arraycopy(source, 1, target, 1, bars);
        }

        private void clearCopies() {
            for (int i = 0; i < INSTRUMENTS; i++) {
                copiesIn[i] = 0;
                copiesOut[i] = 0;
                copiesLost[i] = 0;
            }
        }

        void removeBars(int from, int to) {
            moveTail(to + 1, from);
            bars -= to - from + 1;
        }

        void addBars(int behind, int added, int newBeats, int greatestOrigin) {
            moveTail(behind + 1, behind + 1 + added);
            bars += added;
            fillNewBars(behind + 1, behind + added, newBeats, greatestOrigin + 1);
        }

        private void moveTail(int from, int to) {
            int moved = bars - from + 1;
            if (moved <= 0) {
                return;
            }
            System.arraycopy(origins, from, origins, to, moved);
            System.arraycopy(versions, from, versions, to, moved);
            System.arraycopy(beats, from, beats, to, moved);
            System.arraycopy(tempos, from, tempos, to, moved);
            for (int i = 0; i < STRINGS; i++) {
                System.arraycopy(bowings[i], from, bowings[i], to, moved);
            }
        }

        private void fillNewBars(int from, int to, int newBeats, int firstOrigin) {
            for (int bar = from; bar <= to; bar++) {
                origins[bar] = firstOrigin + bar - from;
                versions[bar] = 0;
                beats[bar] = newBeats;
                tempos[bar] = 0;
                for (int i = 0; i < STRINGS; i++) {
                    bowings[i][bar] = 0;
                }
            }
        }

        /** The bar of this origin, from a bar on, or 0. */
        int barWith(int origin, int from) {
            for (int bar = from; bar <= bars; bar++) {
                if (origins[bar] == origin) {
                    return bar;
                }
            }
            return 0;
        }

        int ownTempo(int bar) {
            return tempos[bar] == 0 ? NOTHING : tempos[bar];
        }

        int countingTempo(int bar) {
            for (int i = bar; i >= 1; i--) {
                if (tempos[i] != 0) {
                    return tempos[i];
                }
            }
            return USUAL_TENTHS;
        }

        float duration(int from, int to) {
            float sum = 0.0f;
            int tenths = countingTempo(from);
            for (int bar = from; bar <= to; bar++) {
                tenths = tempos[bar] == 0 ? tenths : tempos[bar];
                sum = sum + durationOfBar(beats[bar], tenths);
            }
            return sum;
        }

        float wholeDuration() {
            return duration(1, bars);
        }

        /** The first bar at whose end more than the limit has passed, or 0. */
        int firstBarBeyond(float limit) {
            float sum = 0.0f;
            int tenths = USUAL_TENTHS;
            for (int bar = 1; bar <= bars; bar++) {
                tenths = tempos[bar] == 0 ? tenths : tempos[bar];
                sum = sum + durationOfBar(beats[bar], tenths);
                if (sum > limit) {
                    return bar;
                }
            }
            return 0;
        }

        private static float durationOfBar(int barBeats, int tenths) {
            return (float) barBeats * 60.0f / ((float) tenths / 10.0f);
        }

        int beatsInAll() {
            int sum = 0;
            for (int bar = 1; bar <= bars; bar++) {
                sum += beats[bar];
            }
            return sum;
        }

        int ownTempos() {
            return filled(tempos);
        }

        int bowingsInAll() {
            int sum = 0;
            for (int i = 0; i < STRINGS; i++) {
                sum += filled(bowings[i]);
            }
            return sum;
        }

        private int filled(int[] row) {
            int sum = 0;
            for (int bar = 1; bar <= bars; bar++) {
                sum += row[bar] == 0 ? 0 : 1;
            }
            return sum;
        }

        int copies(int instrument, int what) {
            switch (what) {
                case COPIES_IN:
                    return copiesIn[instrument];
                case COPIES_OUT:
                    return copiesOut[instrument];
                case COPIES_LOST:
                    return copiesLost[instrument];
                default:
                    return copiesIn[instrument] + copiesOut[instrument] + copiesLost[instrument];
            }
        }

        int copiesInAll(int what) {
            int sum = 0;
            for (int i = 0; i < INSTRUMENTS; i++) {
                sum += copies(i, what);
            }
            return sum;
        }

        boolean isBought() {
            return copiesInAll(ALL_COPIES) > 0;
        }
    }

    /** A loan of copies of one part. */
    private static final class Loan {
        int borrower;
        int edition;
        int instrument;
        int lent;
        int out;
        int lost;
        int due;
        int fees;

        void becomeLike(Loan source) {
            borrower = source.borrower;
            edition = source.edition;
            instrument = source.instrument;
            lent = source.lent;
            out = source.out;
            lost = source.lost;
            due = source.due;
            fees = source.fees;
        }

        boolean isOverdue(int day) {
            return out > 0 && day > due;
        }

        int number(int what, int day) {
            switch (what) {
                case LOANS_OUT:
                    return out;
                case LOANS_LOST:
                    return lost;
                case LOANS_FEES:
                    return fees;
                default:
                    return isOverdue(day) ? 1 : 0;
            }
        }
    }

    /** All that undo and restore bring back. */
    private static final class Holdings {
        int editionCount;
        final Edition[] editions;
        final int[] greatestOrigins;
        final int[] greatestVersions;
        final int[] players;
        int loanCount;
        final Loan[] loans;
        int day;

        Holdings() {
            editions = new Edition[MAX_EDITIONS];
            for (int i = 0; i < MAX_EDITIONS; i++) {
                editions[i] = new Edition();
            }
            greatestOrigins = new int[WORKS];
            greatestVersions = new int[WORKS];
            players = new int[INSTRUMENTS];
            loans = new Loan[MAX_LOANS];
            for (int i = 0; i < MAX_LOANS; i++) {
                loans[i] = new Loan();
            }
        }

        void becomeLike(Holdings source) {
            editionCount = source.editionCount;
            for (int i = 0; i < editionCount; i++) {
                editions[i].becomeLike(source.editions[i]);
            }
            System.arraycopy(source.greatestOrigins, 0, greatestOrigins, 0, WORKS);
            System.arraycopy(source.greatestVersions, 0, greatestVersions, 0, WORKS);
            System.arraycopy(source.players, 0, players, 0, INSTRUMENTS);
            loanCount = source.loanCount;
            for (int i = 0; i < loanCount; i++) {
                loans[i].becomeLike(source.loans[i]);
            }
            day = source.day;
        }

        boolean hasWork(int work) {
            for (int i = 0; i < editionCount; i++) {
                if (editions[i].work == work) {
                    return true;
                }
            }
            return false;
        }

        int addFirst(int work, int bars, int beats) {
            int number = editionCount;
            editions[number].becomeFirst(work, bars, beats);
            greatestOrigins[work] = bars;
            greatestVersions[work] = 0;
            editionCount++;
            return number;
        }

        int addCopy(int model) {
            int number = editionCount;
            editions[number].becomeCopy(editions[model], model);
            editionCount++;
            return number;
        }

        int copiesOfModel(int model) {
            int sum = 0;
            for (int i = 0; i < editionCount; i++) {
                sum += editions[i].model == model ? 1 : 0;
            }
            return sum;
        }

        int desks(int instrument) {
            return instrument < STRINGS ? (players[instrument] + 1) / 2 : players[instrument];
        }

        int instrumentsWithPlayers() {
            int sum = 0;
            for (int i = 0; i < INSTRUMENTS; i++) {
                sum += players[i] > 0 ? 1 : 0;
            }
            return sum;
        }

        boolean hasAllNeeded(int edition) {
            for (int i = 0; i < INSTRUMENTS; i++) {
                if (desks(i) > editions[edition].copiesIn[i]) {
                    return false;
                }
            }
            return true;
        }

        void addLoansOfAllNeeded(int borrower, int edition, int days) {
            for (int i = 0; i < INSTRUMENTS; i++) {
                if (players[i] > 0) {
                    addLoan(borrower, edition, i, desks(i), days);
                }
            }
        }

        int addLoan(int borrower, int edition, int instrument, int copies, int days) {
            int number = loanCount;
            Loan made = loans[number];
            made.borrower = borrower;
            made.edition = edition;
            made.instrument = instrument;
            made.lent = copies;
            made.out = copies;
            made.lost = 0;
            made.due = day + days;
            made.fees = 0;
            loanCount++;
            editions[edition].copiesIn[instrument] -= copies;
            editions[edition].copiesOut[instrument] += copies;
            return number;
        }

        int takeBack(int number, int good, int bad) {
            Loan brought = loans[number];
            int late = Math.max(0, day - brought.due);
            int fee = (good + bad) * Math.min(late, MAX_DAILY_FEE) + bad * FEE_FOR_BAD;
            brought.out -= good + bad;
            brought.lost += bad;
            brought.fees += fee;
            Edition owner = editions[brought.edition];
            owner.copiesOut[brought.instrument] -= good + bad;
            owner.copiesIn[brought.instrument] += good;
            owner.copiesLost[brought.instrument] += bad;
            return fee;
        }

        int overdueLoanAt(int place) {
            for (int i = 0; i < loanCount; i++) {
                if (loans[i].isOverdue(day) && overdueAhead(i) == place) {
                    return i;
                }
            }
            return NOTHING;
        }

        private int overdueAhead(int loan) {
            int sum = 0;
            for (int i = 0; i < loanCount; i++) {
                boolean isEarlier = loans[i].due < loans[loan].due || loans[i].due == loans[loan].due && i < loan;
                sum += loans[i].isOverdue(day) && isEarlier ? 1 : 0;
            }
            return sum;
        }

        int sumOfLoans(int borrower, int what) {
            int sum = 0;
            for (int i = 0; i < loanCount; i++) {
                sum += loans[i].borrower == borrower ? loans[i].number(what, day) : 0;
            }
            return sum;
        }

        int feesInAll() {
            int sum = 0;
            for (int i = 0; i < loanCount; i++) {
                sum += loans[i].fees;
            }
            return sum;
        }

        int openLoans() {
            int sum = 0;
            for (int i = 0; i < loanCount; i++) {
                sum += loans[i].out > 0 ? 1 : 0;
            }
            return sum;
        }

        int copiesInAll(int what) {
            int sum = 0;
            for (int i = 0; i < editionCount; i++) {
                sum += editions[i].copiesInAll(what);
            }
            return sum;
        }
    }

    /** The holdings as they were ahead of the latest changes, in a ring with one row to spare for the next change. */
    private static final class History {
        private static final int ROWS = MAX_CHANGES + 1;

        final Holdings[] rows;
        int oldest;
        int size;

        History() {
            rows = new Holdings[ROWS];
            for (int i = 0; i < ROWS; i++) {
                rows[i] = new Holdings();
            }
        }

        /** Notes the holdings in the row to spare; without a commit nothing has happened. */
        void prepare(Holdings now) {
            spareRow().becomeLike(now);
        }

        void commit() {
            if (size < MAX_CHANGES) {
                size++;
            } else {
                oldest = (oldest + 1) % ROWS;
            }
        }

        void keep(Holdings now) {
            prepare(now);
            commit();
        }

        /** Brings back what was noted by prepare. */
        void takeBack(Holdings now) {
            now.becomeLike(spareRow());
        }

        void goBack(Holdings now) {
            size--;
            takeBack(now);
        }

        private Holdings spareRow() {
            return rows[(oldest + size) % ROWS];
        }
    }

    /** Two editions of a work held against one another. */
    private static final class Comparison {
        private static final int MAX_RUNS = 2 * MAX_BARS;

        int facing;
        int sameVersions;
        int runs;
        final int[] kinds;
        final int[] ones;
        final int[] others;
        final int[] lengths;

        Comparison() {
            kinds = new int[MAX_RUNS];
            ones = new int[MAX_RUNS];
            others = new int[MAX_RUNS];
            lengths = new int[MAX_RUNS];
        }

        void trace(Edition one, Edition other) {
            facing = 0;
            sameVersions = 0;
            runs = 0;
            int passed = 0;
            for (int bar = 1; bar <= one.bars; bar++) {
                // Common bars stand in the same order in both editions, so the facing bar can only be further on.
                int there = other.barWith(one.origins[bar], passed + 1);
                if (there == 0) {
                    extendOrBegin(ONE_SIDE, bar, passed);
                } else {
                    addGap(bar - 1, passed + 1, there - 1);
                    addFacing(one.versions[bar] == other.versions[there], bar, there);
                    passed = there;
                }
            }
            addGap(one.bars, passed + 1, other.bars);
        }

        private void addGap(int behind, int from, int to) {
            if (from <= to) {
                begin(OTHER_SIDE, behind, from, to - from + 1);
            }
        }

        private void addFacing(boolean isSameVersion, int bar, int there) {
            facing++;
            if (isSameVersion) {
                sameVersions++;
            } else {
                extendOrBegin(REWORKED, bar, there);
            }
        }

        private void extendOrBegin(int kind, int bar, int there) {
            int last = runs - 1;
            if (last >= 0 && kinds[last] == kind && ones[last] + lengths[last] == bar) {
                lengths[last]++;
            } else {
                begin(kind, bar, there, 1);
            }
        }

        private void begin(int kind, int bar, int there, int length) {
            if (runs < MAX_RUNS) {
                kinds[runs] = kind;
                ones[runs] = bar;
                others[runs] = there;
                lengths[runs] = length;
                runs++;
            }
        }
    }

    /** Copies bowings from an edition to another one and counts what became of them. */
    private static final class BowingCopier {
        boolean hasCopied;
        int put;
        int dropped;
        int clashes;
        int doubtful;

        void copyRow(Edition from, Edition to, int instrument, boolean replaces) {
            hasCopied = true;
            put = 0;
            dropped = 0;
            clashes = 0;
            doubtful = 0;
            for (int bar = 1; bar <= from.bars; bar++) {
                if (from.bowings[instrument][bar] != 0) {
                    copyOne(from, bar, to, instrument, replaces);
                }
            }
        }

        private void copyOne(Edition from, int bar, Edition to, int instrument, boolean replaces) {
            int there = to.barWith(from.origins[bar], 1);
            if (there == 0) {
                dropped++;
                return;
            }
            int bowing = from.bowings[instrument][bar];
            int before = to.bowings[instrument][there];
            if (before == bowing) {
                return;
            }
            boolean isClash = before != 0;
            clashes += isClash ? 1 : 0;
            if (isClash && !replaces) {
                return;
            }
            to.bowings[instrument][there] = bowing;
            put++;
            doubtful += from.versions[bar] != to.versions[there] ? 1 : 0;
        }
    }

    /** A box with its row of places. */
    private static final class Box {
        private static final int EMPTY = -1;

        int sort;
        int places;
        final int[] editions;
        final int[] instruments;

        Box() {
            editions = new int[MAX_PLACES];
            instruments = new int[MAX_PLACES];
        }

        void makeAnew(int newSort, int newPlaces) {
            sort = newSort;
            places = newPlaces;
            for (int i = 0; i < MAX_PLACES; i++) {
                editions[i] = EMPTY;
            }
        }

        void becomeLike(Box source) {
            sort = source.sort;
            places = source.places;
            System.arraycopy(source.editions, 0, editions, 0, MAX_PLACES);
            System.arraycopy(source.instruments, 0, instruments, 0, MAX_PLACES);
        }

        boolean takes(int instrument) {
            switch (sort) {
                case SORT_SCORES:
                    return instrument == SCORE;
                case SORT_PARTS:
                    return instrument != SCORE;
                case SORT_STRINGS:
                    return isString(instrument);
                default:
                    return true;
            }
        }

        boolean isEmptyAt(int place) {
            return editions[place] == EMPTY;
        }

        int things() {
            int sum = 0;
            for (int i = 0; i < places; i++) {
                sum += isEmptyAt(i) ? 0 : 1;
            }
            return sum;
        }
    }

    /** The input and, after it has been parsed, its commands. */
    private static final class CommandText {
        private static final char DIGIT = 'd';
        private static final char NUMBER = 'n';
        private static final int MAX_DIGITS = 4;

        final char[] signs;
        int length;
        int at;
        int commands;
        final char[] letters;
        final int[][] numbers;

        CommandText() {
            signs = new char[MAX_INPUT];
            // A command takes at least one sign, so there are never more commands than signs.
            letters = new char[MAX_INPUT];
            numbers = new int[MAX_INPUT][MAX_NUMBERS];
        }

        void add(char sign) {
            signs[length] = sign;
            length++;
        }

        /** Answers the fault position, or NOTHING if the text has no fault. */
        int parse() {
            commands = 0;
            at = 0;
            for (int i = 0; i < MAX_INPUT; i++) {
                if (!parseCommand()) {
                    return at;
                }
                if (at >= length) {
                    return NOTHING;
                }
                if (!accept(';')) {
                    return at;
                }
            }
            return at;
        }

        private boolean parseCommand() {
            if (at >= length) {
                return false;
            }
            char letter = signs[at];
            String form = formBehind(letter);
            if (form.isEmpty()) {
                return false;
            }
            at++;
            letters[commands] = letter;
            int found = 0;
            for (int i = 0; i < form.length(); i++) {
                char part = form.charAt(i);
                if (part != DIGIT && part != NUMBER) {
                    if (!accept(part)) {
                        return false;
                    }
                } else {
                    int number = parseNumber(part == DIGIT ? 1 : MAX_DIGITS);
                    if (number < 0) {
                        return false;
                    }
                    numbers[commands][found] = number;
                    found++;
                }
            }
            commands++;
            return true;
        }

        private static String formBehind(char letter) {
            switch (letter) {
                case 'c':
                    return "d:n-n";
                case 'i':
                    return "d:n+n*d";
                case 'w':
                    return "d:n=d";
                case 't':
                    return "d:n=n";
                case 'b':
                    return "d.d:n=d";
                case 'l':
                    return "d:d.d*n/n";
                case 'r':
                    return "n:n+n";
                default:
                    return "";
            }
        }

        private boolean accept(char sign) {
            if (at < length && signs[at] == sign) {
                at++;
                return true;
            }
            return false;
        }

        /** Takes as many digits as there are, up to a limit; answers -1 if there is none. */
        private int parseNumber(int maxDigits) {
            int number = -1;
            for (int i = 0; i < maxDigits; i++) {
                if (at >= length || signs[at] < '0' || signs[at] > '9') {
                    return number;
                }
                number = (number < 0 ? 0 : number * 10) + signs[at] - '0';
                at++;
            }
            return number;
        }
    }
}
