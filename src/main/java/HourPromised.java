import java.util.ArrayList;
import java.util.Arrays;

/** A house of undertakers that promises hours. The document's promises 1 to 24 tell what each call answers. */
public final class HourPromised {
    public static final int NONE = -1, UNKNOWN = -1001, OUTSIDE = -1002, NOT = -1003, FULL = -1004;

    private static final int HOURS = 400, HOURS_OF_A_DAY = 10;
    private static final int STEPS = 4, FETCH = 0, SERVICE = 1, FIRE = 2, GRAVE = 3;
    private static final int PAPERS = 6, FAITHS = 4, CHAPELS = 3, ALL_DAY = 1023;
    private static final int MOST_BYTES = 100, MOST_BYTES_FED = 8;

    private static final int MOST_CASES = 16, MOST_NEEDED = 6, MOST_SPAN = 70;
    private static final int MOST_BEARERS = 12, LEAST_HEIGHT = 140, MOST_HEIGHT = 210;

    private static final int MOST_PLANS = 16, MOST_PRICE = 1000000, MOST_SUM = 1000000, MOST_TRUST = 100000000;
    private static final int MOST_RATE = 100, WHOLE_RATE = 10000, MOST_DAYS = 400;

    /** What the house has, as house() numbers it. */
    private static final int CARS = 0, FIRES = 1, ROOMS = 2, KINDS = 3;
    private static final int[] MOST_OF_KIND = {4, 3, 8};

    /** What an hour takes, as taken() numbers it. */
    private static final int CARS_TAKEN = 0, CHAPELS_TAKEN = 1, FIRES_TAKEN = 2, ROOMS_TAKEN = 3, BEARERS_TAKEN = 4;
    private static final int PROMISES_TAKEN = 5, ROWS_TAKEN = 6;
    private static final int[] ROW_OF_KIND = {CARS_TAKEN, FIRES_TAKEN, ROOMS_TAKEN};

    /** What a law says of a step, as says() numbers it. */
    private static final int PAPERS_WANTED = 0, AT_MOST = 1, AT_LEAST = 2, NEVER = 3, STEPS_AHEAD = 4, SAYINGS = 5;

    /** What hinders a step, as may() numbers it. */
    private static final int FREE = 0, IS_PROMISED = 1, NOT_ABOVE_DEATH = 2, LAW_SAYS_NEVER = 3, PAPER_LACKS = 4;
    private static final int LAW_BOUNDS = 5, STEP_AHEAD_LACKS = 6, AHEAD_OF_NO_LATER = 7, OTHER_END = 8, SAME_HOUR = 9;
    private static final int NO_CAR = 10, NO_PLACE = 11, NO_BEARERS = 12;

    private final int[] stock = {3, 1, 4};
    private final int[] openHours = {ALL_DAY, ALL_DAY, ALL_DAY};
    private final Bearers bearers = new Bearers();
    private final Ledger ledger = new Ledger();

    private final Text text = new Text();
    private final LawReader reader = new LawReader();
    private final Law[] laws = new Law[FAITHS];
    private Law draft = new Law();

    private final ArrayList<CaseFile> cases = new ArrayList<>();
    private int standing = 0;
    private int undone = 0;

    private final ArrayList<Plan> plans = new ArrayList<>();
    private int dailyRate = 0;
    private int paidOut = 0;

    public HourPromised() {
        for (int faith = 0; faith < FAITHS; faith++) {
            laws[faith] = new Law();
        }
    }

    // ---- the house

    public int house(int what, int v) {
        if (!within(what, 0, KINDS - 1) || !within(v, 0, MOST_OF_KIND[what])) {
            return OUTSIDE;
        }
        if (ledger.mostOfAnyHour(ROW_OF_KIND[what]) > v) {
            return NOT;
        }
        int was = stock[what];
        stock[what] = v;
        return was;
    }

    public int open(int chapel, int hours) {
        if (!within(chapel, 0, CHAPELS - 1)) {
            return UNKNOWN;
        }
        if (!within(hours, 0, ALL_DAY)) {
            return OUTSIDE;
        }
        int was = openHours[chapel];
        openHours[chapel] = hours;
        if (!everyServiceHasChapel()) {
            openHours[chapel] = was;
            return NOT;
        }
        return was;
    }

    public int bearer(int height) {
        if (!within(height, LEAST_HEIGHT, MOST_HEIGHT)) {
            return OUTSIDE;
        }
        return bearers.hire(height);
    }

    private boolean everyServiceHasChapel() {
        for (int hour = 0; hour < HOURS; hour++) {
            if (ledger.takenIn(hour, CHAPELS_TAKEN) > openChapels(hour)) {
                return false;
            }
        }
        return true;
    }

    private int openChapels(int hour) {
        int sum = 0;
        for (int chapel = 0; chapel < CHAPELS; chapel++) {
            sum += isOpen(chapel, hour) ? 1 : 0;
        }
        return sum;
    }

    private boolean isOpen(int chapel, int hour) {
        return has(openHours[chapel], hour % HOURS_OF_A_DAY);
    }

    // ---- laws

    public int feed(int n, long bytes) {
        if (!within(n, 1, MOST_BYTES_FED)) {
            return OUTSIDE;
        }
        return text.append(n, bytes);
    }

    public int law(int faith) {
        if (!within(faith, 0, FAITHS - 1)) {
            return UNKNOWN;
        }
        int fault = reader.read(text, draft);
        text.empty();
        if (fault != 0) {
            return -10 - fault;
        }
        Law old = laws[faith];
        laws[faith] = draft;
        draft = old;
        int sum = 0;
        for (int c = 0; c < cases.size(); c++) {
            CaseFile file = cases.get(c);
            sum += file.faith == faith ? undoBroken(file) : 0;
        }
        return sum;
    }

    public int place() {
        return reader.faultAt;
    }

    public int says(int faith, int step, int what) {
        if (!within(faith, 0, FAITHS - 1)) {
            return UNKNOWN;
        }
        if (!isStep(step) || !within(what, 0, SAYINGS - 1)) {
            return OUTSIDE;
        }
        return laws[faith].of(step, what);
    }

    // ---- cases

    public int casus(int faith, int death, int needed, int span) {
        if (!within(faith, 0, FAITHS - 1)) {
            return UNKNOWN;
        }
        if (!isHour(death) || !within(needed, 0, MOST_NEEDED) || !within(span, 0, MOST_SPAN)) {
            return OUTSIDE;
        }
        if (cases.size() >= MOST_CASES) {
            return FULL;
        }
        cases.add(new CaseFile(faith, death, needed, span));
        return cases.size() - 1;
    }

    public int paper(int c, int paper, int hour) {
        CaseFile file = fileOf(c);
        if (file == null) {
            return UNKNOWN;
        }
        if (!within(paper, 0, PAPERS - 1) || !(hour == NONE || isHour(hour))) {
            return OUTSIDE;
        }
        file.paperHours[paper] = hour;
        return undoBroken(file);
    }

    public int may(int c, int step, int hour) {
        CaseFile file = fileOf(c);
        if (file == null) {
            return UNKNOWN;
        }
        if (!isStep(step) || !isHour(hour)) {
            return OUTSIDE;
        }
        return hindrance(file, step, hour);
    }

    public int promise(int c, int step, int hour) {
        CaseFile file = fileOf(c);
        if (file == null) {
            return UNKNOWN;
        }
        if (!isStep(step) || !isHour(hour)) {
            return OUTSIDE;
        }
        if (hindrance(file, step, hour) != FREE) {
            return NOT;
        }
        book(file, step, hour);
        return 1;
    }

    public int earliest(int c, int step, int from) {
        CaseFile file = fileOf(c);
        if (file == null) {
            return UNKNOWN;
        }
        if (!isStep(step) || !isHour(from)) {
            return OUTSIDE;
        }
        for (int hour = from; hour < HOURS; hour++) {
            if (hindrance(file, step, hour) == FREE) {
                return hour;
            }
        }
        return NONE;
    }

    public int undo(int c, int step) {
        CaseFile file = fileOf(c);
        if (file == null) {
            return UNKNOWN;
        }
        if (!isStep(step)) {
            return OUTSIDE;
        }
        if (!file.hasPromised(step)) {
            return NOT;
        }
        takeBack(file, step);
        return 1 + undoBroken(file);
    }

    public int promised(int c, int step, int what) {
        CaseFile file = fileOf(c);
        if (file == null) {
            return UNKNOWN;
        }
        if (!isStep(step)) {
            return OUTSIDE;
        }
        switch (what) {
            case 0:
                return file.hours[step];
            case 1:
                return step == SERVICE ? chapelOf(c, file.hours[SERVICE]) : NONE;
            case 2:
                return takesBearers(step) ? bearersOf(c, file.hours[step]) : 0;
            default:
                return OUTSIDE;
        }
    }

    public int taken(int hour, int what) {
        if (!isHour(hour) || !within(what, 0, ROWS_TAKEN - 1)) {
            return OUTSIDE;
        }
        return ledger.takenIn(hour, what);
    }

    public int count(int what) {
        switch (what) {
            case 0:
                return cases.size();
            case 1:
                return bearers.hired;
            case 2:
                return standing;
            case 3:
                return undone;
            case 4:
                return text.length;
            case 5:
                return plans.size();
            case 6:
                return trustOfAll();
            case 7:
                return paidOut;
            case 8:
                return stock[CARS];
            case 9:
                return stock[FIRES];
            case 10:
                return stock[ROOMS];
            default:
                return OUTSIDE;
        }
    }

    private CaseFile fileOf(int c) {
        return within(c, 0, cases.size() - 1) ? cases.get(c) : null;
    }

    private int hindrance(CaseFile file, int step, int hour) {
        if (file.hasPromised(step)) {
            return IS_PROMISED;
        }
        Law law = laws[file.faith];
        int hinders = file.hinderedByLaw(law, step, hour);
        if (hinders == FREE) {
            hinders = file.hinderedByOtherSteps(law, step, hour);
        }
        if (hinders != FREE) {
            return hinders;
        }
        if (ledger.takenIn(hour, CARS_TAKEN) >= stock[CARS]) {
            return NO_CAR;
        }
        if (!hasPlaceFor(file, step, hour)) {
            return NO_PLACE;
        }
        return takesBearers(step) && !hasBearersFor(file, hour) ? NO_BEARERS : FREE;
    }

    private boolean hasPlaceFor(CaseFile file, int step, int hour) {
        switch (step) {
            case FETCH:
                return ledger.hasRooms(hour, file.roomEnd(), stock[ROOMS]);
            case SERVICE:
                return ledger.takenIn(hour, CHAPELS_TAKEN) < openChapels(hour);
            case FIRE:
                return ledger.takenIn(hour, FIRES_TAKEN) < stock[FIRES];
            default:
                return true;
        }
    }

    private boolean hasBearersFor(CaseFile another, int hour) {
        bearers.wantNothing();
        for (int c = 0; c < cases.size(); c++) {
            CaseFile file = cases.get(c);
            if (file.isCarriedAt(hour)) {
                bearers.want(file.needed, file.span);
            }
        }
        // Whether all can be carried does not hang on their order, so the new one may come last.
        bearers.want(another.needed, another.span);
        return bearers.findSets();
    }

    private int bearersOf(int c, int hour) {
        if (hour == NONE) {
            return 0;
        }
        int rank = NONE;
        bearers.wantNothing();
        for (int i = 0; i < cases.size(); i++) {
            CaseFile file = cases.get(i);
            if (file.isCarriedAt(hour)) {
                rank = i == c ? bearers.wanted : rank;
                bearers.want(file.needed, file.span);
            }
        }
        return bearers.findSets() ? bearers.setOf(rank) : 0;
    }

    private int chapelOf(int c, int hour) {
        if (hour == NONE) {
            return NONE;
        }
        int ahead = 0;
        for (int i = 0; i < c && i < cases.size(); i++) {
            ahead += cases.get(i).hours[SERVICE] == hour ? 1 : 0;
        }
        for (int chapel = 0; chapel < CHAPELS; chapel++) {
            if (isOpen(chapel, hour)) {
                if (ahead == 0) {
                    return chapel;
                }
                ahead--;
            }
        }
        return NONE;
    }

    private void book(CaseFile file, int step, int hour) {
        // The room's end hangs on the other steps, so it is entered anew with each of them.
        ledger.enterRoom(file, -1);
        file.hours[step] = hour;
        ledger.enterStep(file, step, 1);
        ledger.enterRoom(file, 1);
        standing++;
    }

    private void takeBack(CaseFile file, int step) {
        ledger.enterRoom(file, -1);
        ledger.enterStep(file, step, -1);
        file.hours[step] = NONE;
        ledger.enterRoom(file, 1);
        standing--;
        undone++;
    }

    /** One that is undone may break another, so the search begins anew, at most once for each step. */
    private int undoBroken(CaseFile file) {
        Law law = laws[file.faith];
        int sum = 0;
        for (int round = 0; round < STEPS; round++) {
            int step = file.firstBroken(law);
            if (step == NONE) {
                break;
            }
            takeBack(file, step);
            sum++;
        }
        return sum;
    }

    // ---- money

    public int plan(int price) {
        if (!within(price, 0, MOST_PRICE)) {
            return OUTSIDE;
        }
        if (plans.size() >= MOST_PLANS) {
            return FULL;
        }
        plans.add(new Plan(price));
        return plans.size() - 1;
    }

    public int pay(int plan, int sum) {
        Plan chosen = planOf(plan);
        if (chosen == null) {
            return UNKNOWN;
        }
        if (!within(sum, 1, MOST_SUM)) {
            return OUTSIDE;
        }
        if (chosen.trust + sum > MOST_TRUST) {
            return NOT;
        }
        chosen.trust += sum;
        return chosen.trust;
    }

    public int rate(int v) {
        if (!within(v, 0, MOST_RATE)) {
            return OUTSIDE;
        }
        int was = dailyRate;
        dailyRate = v;
        return was;
    }

    public int days(int n) {
        if (!within(n, 0, MOST_DAYS)) {
            return OUTSIDE;
        }
        for (int i = 0; i < plans.size(); i++) {
            plans.get(i).grow(n, dailyRate);
        }
        return trustOfAll();
    }

    public int tie(int plan, int c) {
        Plan chosen = planOf(plan);
        CaseFile file = fileOf(c);
        if (chosen == null || file == null) {
            return UNKNOWN;
        }
        if (chosen.tiedTo != NONE || file.plan != NONE || chosen.hasPaid) {
            return NOT;
        }
        chosen.tiedTo = c;
        file.plan = plan;
        return 1;
    }

    public int settle(int c) {
        CaseFile file = fileOf(c);
        if (file == null) {
            return UNKNOWN;
        }
        if (file.isPaid || !(file.hasPromised(FIRE) || file.hasPromised(GRAVE))) {
            return NOT;
        }
        file.isPaid = true;
        Plan tied = planOf(file.plan);
        if (tied == null) {
            return 0;
        }
        int sum = tied.payOut();
        paidOut += sum;
        return sum;
    }

    public int planned(int plan, int what) {
        Plan chosen = planOf(plan);
        if (chosen == null) {
            return UNKNOWN;
        }
        switch (what) {
            case 0:
                return chosen.price;
            case 1:
                return chosen.trust;
            case 2:
                return chosen.tiedTo;
            case 3:
                return chosen.paid;
            default:
                return OUTSIDE;
        }
    }

    private Plan planOf(int plan) {
        return within(plan, 0, plans.size() - 1) ? plans.get(plan) : null;
    }

    /** Sixteen plans at their most are below the greatest int. */
    private int trustOfAll() {
        int sum = 0;
        for (int i = 0; i < plans.size(); i++) {
            sum += plans.get(i).trust;
        }
        return sum;
    }

    // ---- numbers

    private static boolean within(int v, int least, int most) {
        return v >= least && v <= most;
    }

    private static boolean isHour(int v) {
        return within(v, 0, HOURS - 1);
    }

    private static boolean isStep(int v) {
        return within(v, 0, STEPS - 1);
    }

    private static boolean has(int set, int k) {
        return ((set >> k) & 1) == 1;
    }

    private static boolean takesBearers(int step) {
        return step == SERVICE || step == GRAVE;
    }

    /** THE TEXT that feed() fills and law() uses up. */
    private static final class Text {
        private final int[] bytes = new int[MOST_BYTES];
        private int length = 0;

        int append(int n, long packed) {
            if (length + n > MOST_BYTES) {
                return FULL;
            }
            for (int k = n - 1; k >= 0; k--) {
                bytes[length] = (int) (packed >>> (8 * k)) & 255;
                length++;
            }
            return length;
        }

        /** The byte at a place; NONE, which is no byte, outside the text. */
        int byteAt(int at) {
            return at >= 0 && at < length ? bytes[at] : NONE;
        }

        void empty() {
            length = 0;
        }
    }

    /** What a law says of each step. */
    private static final class Law {
        private final int[][] sayings = new int[STEPS][SAYINGS];

        Law() {
            clear();
        }

        void clear() {
            for (int step = 0; step < STEPS; step++) {
                Arrays.fill(sayings[step], 0);
                sayings[step][AT_MOST] = NONE;
                sayings[step][AT_LEAST] = NONE;
            }
        }

        int of(int step, int what) {
            return sayings[step][what];
        }

        void put(int step, int what, int value) {
            sayings[step][what] = value;
        }

        void addTo(int step, int what, int k) {
            sayings[step][what] |= 1 << k;
        }

        boolean isWithinBounds(int step, int sinceDeath) {
            int most = sayings[step][AT_MOST];
            int least = sayings[step][AT_LEAST];
            return (most == NONE || sinceDeath <= most) && (least == NONE || sinceDeath >= least);
        }
    }

    /** Reads a text into a law, byte by byte, and stops at the first fault. */
    private static final class LawReader {
        private static final int CANNOT_STAND = 1, LONG_NUMBER = 2, CLAUSE_AGAIN = 3, ITEM_AGAIN = 4, OWN_STEP = 5;
        private static final int AT_CLAUSE = 0, AT_COLON = 1, AT_ITEM = 2, AT_NUMBER = 3;
        private static final int MOST_FIGURES = 3;
        /** Items by number: the papers, then these, then the steps. */
        private static final int BELOW = PAPERS, ABOVE = PAPERS + 1, BAN = PAPERS + 2, FIRST_STEP = PAPERS + 3;

        private int faultAt = NONE;
        private int awaits;
        private int at;
        private int clause;
        private int bound;
        private int clausesSeen;
        private int itemsSeen;

        /** The number of the first fault, or 0; the law is whole only then. */
        int read(Text text, Law law) {
            law.clear();
            awaits = AT_CLAUSE;
            clausesSeen = 0;
            at = 0;
            faultAt = NONE;
            // Each round takes a byte or more, so there are no more rounds than bytes.
            for (int round = 0; round < MOST_BYTES && at < text.length; round++) {
                int fault = text.byteAt(at) == ' ' ? skip() : readPart(text, law);
                if (fault != 0) {
                    faultAt = at;
                    return fault;
                }
            }
            if (awaits != AT_CLAUSE) {
                faultAt = text.length;
                return CANNOT_STAND;
            }
            return 0;
        }

        private int skip() {
            at++;
            return 0;
        }

        private int readPart(Text text, Law law) {
            switch (awaits) {
                case AT_CLAUSE:
                    return readClause(stepOf(text.byteAt(at)));
                case AT_COLON:
                    return text.byteAt(at) == ':' ? goOn(AT_ITEM) : CANNOT_STAND;
                case AT_ITEM:
                    return text.byteAt(at) == ';' ? goOn(AT_CLAUSE) : readItem(itemOf(text.byteAt(at)), law);
                default:
                    return readNumber(text, law);
            }
        }

        private int goOn(int next) {
            at++;
            awaits = next;
            return 0;
        }

        private int readClause(int step) {
            if (step == NONE) {
                return CANNOT_STAND;
            }
            if (has(clausesSeen, step)) {
                return CLAUSE_AGAIN;
            }
            clausesSeen |= 1 << step;
            itemsSeen = 0;
            clause = step;
            return goOn(AT_COLON);
        }

        private int readItem(int item, Law law) {
            if (item == NONE) {
                return CANNOT_STAND;
            }
            if (has(itemsSeen, item)) {
                return ITEM_AGAIN;
            }
            if (item == FIRST_STEP + clause) {
                return OWN_STEP;
            }
            itemsSeen |= 1 << item;
            if (item == BELOW || item == ABOVE) {
                bound = item == BELOW ? AT_MOST : AT_LEAST;
                return goOn(AT_NUMBER);
            }
            if (item == BAN) {
                law.put(clause, NEVER, 1);
            } else if (item < PAPERS) {
                law.addTo(clause, PAPERS_WANTED, item);
            } else {
                law.addTo(clause, STEPS_AHEAD, item - FIRST_STEP);
            }
            return goOn(AT_ITEM);
        }

        private int readNumber(Text text, Law law) {
            int value = 0;
            int figures = 0;
            while (figures <= MOST_FIGURES && isFigure(text.byteAt(at + figures))) {
                value = value * 10 + text.byteAt(at + figures) - '0';
                figures++;
            }
            if (figures == 0) {
                return CANNOT_STAND;
            }
            if (figures > MOST_FIGURES) {
                return LONG_NUMBER;
            }
            law.put(clause, bound, value);
            at += figures;
            awaits = AT_ITEM;
            return 0;
        }

        private static boolean isFigure(int b) {
            return b >= '0' && b <= '9';
        }

        private static int stepOf(int b) {
            switch (b) {
                case 'f':
                    return FETCH;
                case 's':
                    return SERVICE;
                case 'b':
                    return FIRE;
                case 'g':
                    return GRAVE;
                default:
                    return NONE;
            }
        }

        private static int itemOf(int b) {
            if (b >= 'A' && b < 'A' + PAPERS) {
                return b - 'A';
            }
            switch (b) {
                case '<':
                    return BELOW;
                case '>':
                    return ABOVE;
                case '!':
                    return BAN;
                default:
                    int step = stepOf(b);
                    return step == NONE ? NONE : FIRST_STEP + step;
            }
        }
    }

    /** A case: what was told of it, and the hours that are promised to it. */
    private static final class CaseFile {
        private final int faith;
        private final int death;
        private final int needed;
        private final int span;
        private final int[] paperHours = new int[PAPERS];
        private final int[] hours = new int[STEPS];
        private int plan = NONE;
        private boolean isPaid = false;

        CaseFile(int faith, int death, int needed, int span) {
            this.faith = faith;
            this.death = death;
            this.needed = needed;
            this.span = span;
            Arrays.fill(paperHours, NONE);
            Arrays.fill(hours, NONE);
        }

        boolean hasPromised(int step) {
            return hours[step] != NONE;
        }

        boolean isCarriedAt(int hour) {
            return hours[SERVICE] == hour || hours[GRAVE] == hour;
        }

        /** The first hour without the room that the fetching takes. */
        int roomEnd() {
            int end = HOURS;
            end = hasPromised(FIRE) ? Math.min(end, hours[FIRE]) : end;
            end = hasPromised(GRAVE) ? Math.min(end, hours[GRAVE]) : end;
            return end;
        }

        int firstBroken(Law law) {
            for (int step = 0; step < STEPS; step++) {
                if (hasPromised(step) && hinderedByLaw(law, step, hours[step]) != FREE) {
                    return step;
                }
            }
            return NONE;
        }

        /** The hindrances that can break a promise, too. */
        int hinderedByLaw(Law law, int step, int hour) {
            if (hour <= death) {
                return NOT_ABOVE_DEATH;
            }
            if (law.of(step, NEVER) == 1) {
                return LAW_SAYS_NEVER;
            }
            if (!hasPapers(law.of(step, PAPERS_WANTED), hour)) {
                return PAPER_LACKS;
            }
            if (!law.isWithinBounds(step, hour - death)) {
                return LAW_BOUNDS;
            }
            return hasStepsAhead(law.of(step, STEPS_AHEAD), hour) ? FREE : STEP_AHEAD_LACKS;
        }

        int hinderedByOtherSteps(Law law, int step, int hour) {
            if (comesTooLate(law, step, hour)) {
                return AHEAD_OF_NO_LATER;
            }
            if ((step == FIRE && hasPromised(GRAVE)) || (step == GRAVE && hasPromised(FIRE))) {
                return OTHER_END;
            }
            return hasOtherStepAt(step, hour) ? SAME_HOUR : FREE;
        }

        private boolean hasPapers(int wanted, int hour) {
            for (int paper = 0; paper < PAPERS; paper++) {
                if (has(wanted, paper) && (paperHours[paper] == NONE || paperHours[paper] > hour)) {
                    return false;
                }
            }
            return true;
        }

        private boolean hasStepsAhead(int wanted, int hour) {
            for (int step = 0; step < STEPS; step++) {
                if (has(wanted, step) && (!hasPromised(step) || hours[step] >= hour)) {
                    return false;
                }
            }
            return true;
        }

        private boolean comesTooLate(Law law, int step, int hour) {
            for (int other = 0; other < STEPS; other++) {
                if (hasPromised(other) && has(law.of(other, STEPS_AHEAD), step) && hours[other] <= hour) {
                    return true;
                }
            }
            return false;
        }

        private boolean hasOtherStepAt(int step, int hour) {
            for (int other = 0; other < STEPS; other++) {
                if (other != step && hours[other] == hour) {
                    return true;
                }
            }
            return false;
        }
    }

    /** What is taken in each hour, kept up with each promise so that no call has to add it up. */
    private static final class Ledger {
        private final int[][] rows = new int[ROWS_TAKEN][HOURS];

        int takenIn(int hour, int what) {
            return rows[what][hour];
        }

        int mostOfAnyHour(int what) {
            int most = 0;
            for (int hour = 0; hour < HOURS; hour++) {
                most = Math.max(most, rows[what][hour]);
            }
            return most;
        }

        boolean hasRooms(int from, int end, int rooms) {
            for (int hour = from; hour < end; hour++) {
                if (rows[ROOMS_TAKEN][hour] >= rooms) {
                    return false;
                }
            }
            return true;
        }

        void enterStep(CaseFile file, int step, int by) {
            int hour = file.hours[step];
            if (hour == NONE) {
                return;
            }
            rows[CARS_TAKEN][hour] += by;
            rows[PROMISES_TAKEN][hour] += by;
            if (step == SERVICE) {
                rows[CHAPELS_TAKEN][hour] += by;
            }
            if (step == FIRE) {
                rows[FIRES_TAKEN][hour] += by;
            }
            if (takesBearers(step)) {
                rows[BEARERS_TAKEN][hour] += by * file.needed;
            }
        }

        void enterRoom(CaseFile file, int by) {
            if (!file.hasPromised(FETCH)) {
                return;
            }
            int end = file.roomEnd();
            for (int hour = file.hours[FETCH]; hour < end; hour++) {
                rows[ROOMS_TAKEN][hour] += by;
            }
        }
    }

    /** The bearers, and the search for the sets of them that one hour wants. */
    private static final class Bearers {
        /** Each promise takes a car, so an hour has no more of them than there can be cars. */
        private static final int MOST_SETS = 4;
        private static final int BITS_OF_A_WORD = 64, WORDS_OF_A_ROW = (1 << MOST_BEARERS) / BITS_OF_A_WORD;

        private final int[] heights = new int[MOST_BEARERS];
        private int hired = 0;
        private final int[] needed = new int[MOST_SETS];
        private final int[] spans = new int[MOST_SETS];
        private final int[] sets = new int[MOST_SETS];
        private int wanted = 0;
        /** Bit u of row k: with the bearers of the SET u away, there are none for the kth set and those behind. */
        private final long[][] hopeless = new long[MOST_SETS][WORDS_OF_A_ROW];

        int hire(int height) {
            if (hired >= MOST_BEARERS) {
                return FULL;
            }
            heights[hired] = height;
            hired++;
            return hired - 1;
        }

        void wantNothing() {
            wanted = 0;
        }

        void want(int many, int span) {
            if (wanted < MOST_SETS) {
                needed[wanted] = many;
                spans[wanted] = span;
                wanted++;
            }
        }

        int setOf(int k) {
            return k >= 0 && k < wanted ? sets[k] : 0;
        }

        /** Whether all that is wanted can be had; the sets are the first ones then. */
        boolean findSets() {
            int sum = 0;
            for (int k = 0; k < wanted; k++) {
                sum += needed[k];
            }
            if (sum > hired) {
                return false;
            }
            // The first set is tried with all bearers there, once: its row is never asked twice.
            for (int k = 1; k < wanted; k++) {
                Arrays.fill(hopeless[k], 0L);
            }
            return findFrom(0, 0);
        }

        private boolean findFrom(int k, int away) {
            if (k >= wanted) {
                return true;
            }
            int word = away / BITS_OF_A_WORD;
            long bit = 1L << (away % BITS_OF_A_WORD);
            if (k > 0 && (hopeless[k][word] & bit) != 0) {
                return false;
            }
            int present = ((1 << hired) - 1) & ~away;
            if (fillSet(k, away, 0, present)) {
                return true;
            }
            hopeless[k][word] |= bit;
            return false;
        }

        /** Tries the rising rows in their order; fit are those above the last chosen one that go with all chosen. */
        private boolean fillSet(int k, int away, int chosen, int fit) {
            int lacking = needed[k] - Integer.bitCount(chosen);
            if (lacking <= 0) {
                sets[k] = chosen;
                return findFrom(k + 1, away | chosen);
            }
            int left = fit;
            for (int i = 0; i < hired && Integer.bitCount(left) >= lacking; i++) {
                if (has(left, i)) {
                    left &= ~(1 << i);
                    if (fillSet(k, away, chosen | (1 << i), left & likeInHeight(i, spans[k]))) {
                        return true;
                    }
                }
            }
            return false;
        }

        private int likeInHeight(int one, int span) {
            int like = 0;
            for (int i = 0; i < hired; i++) {
                like |= Math.abs(heights[i] - heights[one]) <= span ? 1 << i : 0;
            }
            return like;
        }
    }

    /** Money laid by. */
    private static final class Plan {
        private final int price;
        private int trust = 0;
        private int tiedTo = NONE;
        private boolean hasPaid = false;
        private int paid = 0;

        Plan(int price) {
            this.price = price;
        }

        void grow(int nights, int dailyRate) {
            for (int night = 0; night < nights; night++) {
                long grown = trust + (long) trust * dailyRate / WHOLE_RATE;
                trust = (int) Math.min(grown, MOST_TRUST);
            }
        }

        int payOut() {
            int sum = Math.min(price, trust);
            trust -= sum;
            paid = sum;
            hasPaid = true;
            return sum;
        }
    }
}
