import java.util.ArrayList;
import java.util.Arrays;

/** Walls between: neighbours' walls, cell by cell, and works on them. */
public final class PartyWalls {
    public static final int NONE = -1;
    public static final int VOIDED = -2000000000;

    private static final int PLANNED = 0;
    private static final int FREE = 1;
    private static final int ASKED = 2;
    private static final int ALLOWED = 3;
    private static final int DISPUTE = 4;
    private static final int BEGUN = 5;
    private static final int VOID = 6;
    private static final int DONE = 7;

    private static final int RAISE_SORT = 0;
    private static final int SORTS = 4;
    private static final int THIRD = 2;

    private static final int MOST_OWNERS = 20;
    private static final int MOST_WALLS = 6;
    private static final int MOST_WORKS = 30;
    private static final int MOST_SURVEYORS = 12;
    private static final int MOST_HANDS = 5;
    private static final int MOST_SURVEYS = 10;
    private static final int MOST_CRACKS = 20;
    private static final int MOST_GAUGES = 10;
    private static final int MOST_READINGS = 40;
    private static final int MOST_PAYMENTS = 300;
    private static final int MOST_MENDINGS = 60;
    private static final int MOST_CLAUSES = 20;
    private static final int MOST_OPEN = 8;

    private static final int WEEK = 7;
    private static final int YEAR = 365;
    private static final int LAST_DAY = 1_000_000;
    private static final int MOST_DAYS = 400;
    private static final int MOST_MEASURE = 9_999;
    private static final int SEGMENTS = 12;
    private static final int MOST_CELLS = 20;
    private static final int MOST_COST = 100_000;
    private static final int MOST_MONEY = 1_000_000;
    private static final int MOST_MENDED = 1_000_000_000;
    private static final int BROKEN_COST = 10;
    private static final int TAPE_BYTES = 400;
    private static final int FEED_BYTES = 20;

    private final ArrayList<Wall> walls = new ArrayList<>();
    private final ArrayList<Work> works = new ArrayList<>();
    private final ArrayList<Survey> surveyed = new ArrayList<>();
    private final ArrayList<Gauge> gauges = new ArrayList<>();
    private final int[] kinOf = new int[MOST_SURVEYORS];
    private final int[] timesThird = new int[MOST_SURVEYORS];
    private final int[] habits = new int[MOST_HANDS];
    private final Book book = new Book();
    private final Joining joining = new Joining();
    private final byte[] tape = new byte[TAPE_BYTES];
    private final RuleReader reader = new RuleReader(tape);
    private int tapeLength;
    private int owners;
    private int surveyors;
    private int hands;
    private int today;
    private Rule ruleNow = new Rule();

    public PartyWalls() {
    }

    // ---- days, owners, walls and the RULE

    public int owner() throws IllegalStateException {
        checkRoom(owners, MOST_OWNERS);
        owners++;
        return owners - 1;
    }

    public int wall(int one, int other) throws IndexOutOfBoundsException, IllegalStateException {
        checkIndex(one, owners);
        checkIndex(other, owners);
        checkRoom(walls.size(), MOST_WALLS);
        walls.add(new Wall(one, other));
        return walls.size() - 1;
    }

    public int sell(int wall, int side, int owner)
            throws IndexOutOfBoundsException, IllegalArgumentException {
        Wall sold = wallAt(wall);
        checkIndex(owner, owners);
        checkSide(side);
        int former = sold.ownerOf(side);
        sold.giveTo(side, owner);
        return former;
    }

    public int wait(int days) throws IllegalArgumentException, IllegalStateException {
        checkRange(days, 0, 10_000);
        if (today + days > LAST_DAY) {
            throw new IllegalStateException("today would be above 1,000,000");
        }
        today += days;
        return today;
    }

    public int feed(int a, int b, int c, int d, int e) {
        if (tapeLength + FEED_BYTES > TAPE_BYTES) {
            return NONE;
        }
        putOnTape(a);
        putOnTape(b);
        putOnTape(c);
        putOnTape(d);
        putOnTape(e);
        return tapeLength;
    }

    private void putOnTape(int number) {
        for (int shift = 24; shift >= 0 && tapeLength < TAPE_BYTES; shift -= 8) {
            tape[tapeLength] = (byte) (number >> shift);
            tapeLength++;
        }
    }

    public int rule(int n) throws IllegalArgumentException {
        checkRange(n, 0, tapeLength);
        tapeLength = 0;
        Rule read = reader.readRule(n);
        if (read == null) {
            return reader.faultKind() - 10;
        }
        ruleNow = read;
        return read.clauses;
    }

    public int fault() {
        return reader.faultPlace();
    }

    public int counted(int day, int days) throws IllegalArgumentException, IllegalStateException {
        checkRange(day, 0, LAST_DAY);
        checkRange(days, 0, MOST_DAYS);
        if (days > 0 && ruleNow.restsAlways()) {
            throw new IllegalStateException("all DAYS of the week are of rest");
        }
        return ruleNow.countFrom(day, days);
    }

    // ---- WORKS

    public int work(int wall, int side, int sort, int depth, int close, int height)
            throws IndexOutOfBoundsException, IllegalArgumentException, IllegalStateException {
        Wall at = wallAt(wall);
        checkSide(side);
        checkRange(sort, 0, SORTS - 1);
        checkRange(depth, 0, MOST_MEASURE);
        checkRange(close, 0, MOST_MEASURE);
        checkRange(height, 0, MOST_MEASURE);
        checkRoom(works.size(), MOST_WORKS);
        if (ruleNow.restsAlways()) {
            throw new IllegalStateException("all DAYS of the week are of rest");
        }
        boolean needsNotice = ruleNow.needsNotice(sort, depth, close, height);
        works.add(new Work(at, side, sort, ruleNow, needsNotice));
        return works.size() - 1;
    }

    public int state(int work) throws IndexOutOfBoundsException {
        return workAt(work).state;
    }

    public int notice(int work) throws IndexOutOfBoundsException {
        Work asked = workAt(work);
        if (asked.state != PLANNED) {
            return -1;
        }
        asked.ask(today);
        return asked.arrival;
    }

    public int answer(int work, boolean consent) throws IndexOutOfBoundsException {
        Work asked = workAt(work);
        if (asked.state != ASKED) {
            return -1;
        }
        if (today < asked.arrival) {
            return -2;
        }
        if (consent) {
            asked.allowByNotice();
        } else {
            asked.disputeFromDay(today);
        }
        return 1;
    }

    public int told(int work, int what) throws IndexOutOfBoundsException, IllegalArgumentException {
        Work of = workAt(work);
        checkRange(what, 0, 7);
        switch (what) {
            case 0:
                return of.allowedFrom;
            case 1:
                return of.state == DISPUTE ? of.disputeFrom : NONE;
            case 2:
                return of.firstHour();
            case 3:
                return of.endHour();
            case 4:
                return of.share();
            case 5:
                return of.state == ASKED ? of.answerBy : NONE;
            case 6:
                return of.mayBeAppealed() ? of.appealBy() : NONE;
            default:
                return of.begunOn;
        }
    }

    public int surveyor(int kin) throws IllegalArgumentException, IllegalStateException {
        checkRange(kin, 0, (1 << owners) - 1);
        checkRoom(surveyors, MOST_SURVEYORS);
        kinOf[surveyors] = kin;
        surveyors++;
        return surveyors - 1;
    }

    public int appoint(int work, int side, int surveyor, int by)
            throws IndexOutOfBoundsException, IllegalArgumentException {
        Work disputed = workAt(work);
        checkIndex(surveyor, surveyors);
        checkSide(side);
        checkSide(by);
        if (disputed.state != DISPUTE) {
            return -1;
        }
        if (disputed.surveyors[side] != NONE) {
            return -2;
        }
        if (by != side && today <= disputed.appointBy()) {
            return -3;
        }
        if (isBarred(surveyor, disputed.wall)) {
            return -4;
        }
        if (disputed.surveyors[1 - side] == surveyor) {
            return -5;
        }
        disputed.surveyors[side] = surveyor;
        if (disputed.surveyors[1 - side] != NONE) {
            chooseThird(disputed);
        }
        return 1;
    }

    private boolean isBarred(int surveyor, Wall wall) {
        return (kinOf[surveyor] >> wall.ownerOf(0) & 1) == 1
                || (kinOf[surveyor] >> wall.ownerOf(1) & 1) == 1;
    }

    private void chooseThird(Work disputed) {
        int chosen = NONE;
        for (int s = 0; s < surveyors; s++) {
            boolean mayBe = s != disputed.surveyors[0] && s != disputed.surveyors[1]
                    && !isBarred(s, disputed.wall);
            if (mayBe && (chosen == NONE || timesThird[s] < timesThird[chosen])) {
                chosen = s;
            }
        }
        if (chosen != NONE) {
            timesThird[chosen]++;
        }
        disputed.surveyors[THIRD] = chosen;
    }

    public int surveys(int work, int which) throws IndexOutOfBoundsException, IllegalArgumentException {
        Work of = workAt(work);
        checkRange(which, 0, THIRD);
        return of.surveyors[which];
    }

    public int propose(int work, int which, int from, int hours, int share)
            throws IndexOutOfBoundsException, IllegalArgumentException {
        Work disputed = workAt(work);
        checkRange(which, 0, THIRD);
        checkLeast(from, today);
        checkRange(hours, 0, 2_324);
        checkRange(hours % 100, hours / 100 + 1, 24);
        checkRange(share, 0, 100);
        if (disputed.state != DISPUTE) {
            return -1;
        }
        if (disputed.surveyors[which] == NONE) {
            return -2;
        }
        Proposal made = new Proposal(from, hours, share);
        if (disputed.hasAlike(which, made)) {
            disputed.awardAs(made, today);
            return 1;
        }
        disputed.proposals[which] = made;
        return 0;
    }

    public int appeal(int work) throws IndexOutOfBoundsException {
        Work awarded = workAt(work);
        if (!awarded.mayBeAppealed()) {
            return -1;
        }
        if (today > awarded.appealBy()) {
            return -2;
        }
        awarded.undoAward(today);
        return 1;
    }

    public int begin(int work) throws IndexOutOfBoundsException {
        Work begun = workAt(work);
        if (begun.state == BEGUN || begun.state == VOID || begun.state == DONE) {
            return -1;
        }
        begun.beginOn(today);
        return begun.state == BEGUN ? 1 : 0;
    }

    public int done(int work) throws IndexOutOfBoundsException {
        Work ended = workAt(work);
        if (ended.state != BEGUN) {
            return -1;
        }
        ended.state = DONE;
        return 1;
    }

    public int enter(int work, int hour) throws IndexOutOfBoundsException, IllegalArgumentException {
        Work entered = workAt(work);
        checkRange(hour, 0, 23);
        if (entered.state != BEGUN) {
            return -1;
        }
        if (entered.mayBeEntered(today, hour)) {
            entered.kept++;
            return 1;
        }
        if (book.isFull()) {
            return -2;
        }
        entered.broken++;
        book.write(entered.ownerThere(), entered.neighbour(), BROKEN_COST, today);
        return 0;
    }

    public int entries(int work, int what) throws IndexOutOfBoundsException, IllegalArgumentException {
        Work of = workAt(work);
        checkRange(what, 0, 1);
        return what == 0 ? of.kept : of.broken;
    }

    // ---- CELLS and PAYMENTS

    public int build(int work, int from, int to, int cells, int cost)
            throws IndexOutOfBoundsException, IllegalArgumentException {
        Work building = workAt(work);
        checkSegments(from, to);
        checkRange(cells, 1, MOST_CELLS);
        checkRange(cost, 0, MOST_COST);
        if (building.state != BEGUN || building.sort != RAISE_SORT) {
            return -1;
        }
        if (building.wall.highest(from, to) + cells > MOST_CELLS) {
            return -2;
        }
        for (int segment = from; segment <= to; segment++) {
            for (int k = 0; k < cells; k++) {
                building.wall.addCell(segment, building.side, today, cost);
            }
        }
        return building.wall.cellsInAll();
    }

    public int lower(int wall, int from, int to) throws IndexOutOfBoundsException, IllegalArgumentException {
        Wall lowered = wallAt(wall);
        checkSegments(from, to);
        return lowered.takeHighestOff(from, to);
    }

    public int use(int wall, int side, int from, int to, int height)
            throws IndexOutOfBoundsException, IllegalArgumentException {
        Wall used = wallAt(wall);
        checkSide(side);
        checkSegments(from, to);
        checkRange(height, 0, MOST_CELLS);
        int due = 0;
        for (int segment = from; segment <= to; segment++) {
            due += used.dueForUse(segment, side, height, today, ruleNow.fade);
        }
        if (!payUnlessFull(used.ownerOf(side), used.ownerOf(1 - side), due)) {
            return -1;
        }
        for (int segment = from; segment <= to; segment++) {
            used.markUsed(segment, side, height);
        }
        return due;
    }

    public int cell(int wall, int segment, int k, int what)
            throws IndexOutOfBoundsException, IllegalArgumentException {
        Wall of = wallAt(wall);
        checkRange(segment, 0, SEGMENTS - 1);
        checkRange(what, 0, 2);
        if (!of.hasCell(segment, k)) {
            return NONE;
        }
        switch (what) {
            case 0:
                return of.builderOf(segment, k);
            case 1:
                return of.valueOf(segment, k, today, ruleNow.fade);
            default:
                return of.usersOf(segment, k);
        }
    }

    public int spend(int work, int sum) throws IndexOutOfBoundsException, IllegalArgumentException {
        Work costly = workAt(work);
        checkRange(sum, 0, MOST_MONEY);
        if (costly.state != BEGUN && costly.state != DONE) {
            return -1;
        }
        int due = sum * (100 - costly.share()) / 100;
        return payUnlessFull(costly.neighbour(), costly.ownerThere(), due) ? due : -2;
    }

    public int secure(int work, int sum) throws IndexOutOfBoundsException, IllegalArgumentException {
        Work secured = workAt(work);
        checkRange(sum, 1, MOST_MONEY);
        if (secured.security != NONE) {
            return -1;
        }
        secured.security = sum;
        return 1;
    }

    public int settle(int work, int damage) throws IndexOutOfBoundsException, IllegalArgumentException {
        Work ended = workAt(work);
        checkRange(damage, 0, MOST_MONEY);
        if (ended.state != DONE && ended.state != VOID) {
            return -1;
        }
        if (ended.security == NONE || ended.settled) {
            return -2;
        }
        int due = Math.min(damage, ended.security);
        if (!payUnlessFull(ended.ownerThere(), ended.neighbour(), due)) {
            return -3;
        }
        ended.settled = true;
        return due;
    }

    /** Of a sum of 0 nothing is written, so a full BOOK doesn't hinder it. */
    private boolean payUnlessFull(int from, int to, int sum) {
        if (sum == 0) {
            return true;
        }
        if (book.isFull()) {
            return false;
        }
        book.write(from, to, sum, today);
        return true;
    }

    public int mend(int payment, int sum) throws IndexOutOfBoundsException, IllegalArgumentException {
        checkIndex(payment, book.payments());
        checkRange(sum, 0, MOST_MENDED);
        if (book.mendings() >= MOST_MENDINGS) {
            return -1;
        }
        int known = book.sumKnown(payment, today);
        book.mendSum(payment, sum, today);
        return known;
    }

    public int payment(int payment, int what) throws IndexOutOfBoundsException, IllegalArgumentException {
        checkIndex(payment, book.payments());
        checkRange(what, 0, 3);
        switch (what) {
            case 0:
                return book.payerOf(payment);
            case 1:
                return book.receiverOf(payment);
            case 2:
                return book.sumKnown(payment, today);
            default:
                return book.dayOf(payment);
        }
    }

    public long balance(int owner, int day, int known) throws IndexOutOfBoundsException {
        checkIndex(owner, owners);
        return book.balanceOf(owner, day, known);
    }

    // ---- HANDS, SURVEYS and GAUGES

    public int hand(int habit) throws IllegalArgumentException, IllegalStateException {
        checkRange(habit, -50, 50);
        checkRoom(hands, MOST_HANDS);
        habits[hands] = habit;
        hands++;
        return hands - 1;
    }

    public int survey(int hand) throws IndexOutOfBoundsException, IllegalStateException {
        checkIndex(hand, hands);
        checkRoom(surveyed.size(), MOST_SURVEYS);
        surveyed.add(new Survey(habits[hand]));
        return surveyed.size() - 1;
    }

    public int crack(int survey, int place, int width)
            throws IndexOutOfBoundsException, IllegalArgumentException {
        Survey of = surveyAt(survey);
        checkRange(place, 0, 100_000);
        checkRange(width, 0, 10_000);
        if (of.cracks() >= MOST_CRACKS) {
            return -1;
        }
        if (of.isBehind(place)) {
            return -2;
        }
        of.addCrack(place, width);
        return of.cracks() - 1;
    }

    public int joined(int before, int after, int what)
            throws IndexOutOfBoundsException, IllegalArgumentException {
        Survey first = surveyAt(before);
        Survey second = surveyAt(after);
        checkRange(what, 0, 4);
        joining.join(first, second, ruleNow.near);
        int grown = joining.grownByMoreThan(ruleNow.season, first, second);
        switch (what) {
            case 0:
                return joining.pairs() - grown;
            case 1:
                return grown;
            case 2:
                return second.cracks() - joining.pairs();
            case 3:
                return first.cracks() - joining.pairs();
            default:
                return joining.apart();
        }
    }

    public int pair(int before, int after, int k) throws IndexOutOfBoundsException {
        Survey first = surveyAt(before);
        Survey second = surveyAt(after);
        joining.join(first, second, ruleNow.near);
        return joining.partnerOf(k);
    }

    public int gauge() throws IllegalStateException {
        checkRoom(gauges.size(), MOST_GAUGES);
        gauges.add(new Gauge());
        return gauges.size() - 1;
    }

    public int read(int gauge, int day, int value)
            throws IndexOutOfBoundsException, IllegalArgumentException {
        Gauge of = gaugeAt(gauge);
        checkLeast(day, 0);
        checkRange(value, -10_000, 10_000);
        if (of.readings() >= MOST_READINGS) {
            return -1;
        }
        if (day > today || !of.isBehindLast(day)) {
            return -2;
        }
        of.addReading(day, value);
        return of.readings();
    }

    public int at(int gauge, int day) throws IndexOutOfBoundsException {
        Gauge of = gaugeAt(gauge);
        return of.covers(day) ? of.valueOn(day) : VOIDED;
    }

    public long cause(int gauge, int far, int work, int to, int what)
            throws IndexOutOfBoundsException, IllegalArgumentException {
        Gauge nearOne = gaugeAt(gauge);
        Gauge farOne = gaugeAt(far);
        Work of = workAt(work);
        checkRange(what, 0, 3);
        if (!hasCauses(nearOne, farOne, of, to)) {
            return VOIDED;
        }
        int from = of.begunOn;
        switch (what) {
            case 0:
                return nearOne.change(from, to);
            case 1:
                return farOne.change(from, to);
            case 2:
                return nearOne.ageing(from, to);
            default:
                return byWorks(nearOne, farOne, from, to);
        }
    }

    public boolean blamed(int gauge, int far, int work, int to) throws IndexOutOfBoundsException {
        Gauge nearOne = gaugeAt(gauge);
        Gauge farOne = gaugeAt(far);
        Work of = workAt(work);
        return hasCauses(nearOne, farOne, of, to)
                && byWorks(nearOne, farOne, of.begunOn, to) > ruleNow.season;
    }

    private static boolean hasCauses(Gauge nearOne, Gauge farOne, Work work, int to) {
        int from = work.begunOn;
        return from != NONE && work.state != VOID && to > from
                && nearOne.covers(from) && nearOne.covers(to)
                && farOne.covers(from) && farOne.covers(to);
    }

    private static long byWorks(Gauge nearOne, Gauge farOne, int from, int to) {
        return nearOne.change(from, to) - farOne.change(from, to) - nearOne.ageing(from, to);
    }

    public int count(int what) {
        switch (what) {
            case 0:
                return owners;
            case 1:
                return walls.size();
            case 2:
                return works.size();
            case 3:
                return today;
            case 4:
                return ruleNow.clauses;
            case 5:
                return tapeLength;
            case 6:
                return hands;
            case 7:
                return surveyed.size();
            case 8:
                return surveyors;
            case 9:
                return book.payments();
            case 10:
                return gauges.size();
            case 11:
                return book.mendings();
            default:
                return NONE;
        }
    }

    // ---- what arguments must be

    private Wall wallAt(int number) {
        if (number < 0 || number >= walls.size()) {
            throw new IndexOutOfBoundsException("no such WALL");
        }
        return walls.get(number);
    }

    /** Silence speaks by days going by, so it is heard whenever a WORK is looked at. */
    private Work workAt(int number) {
        if (number < 0 || number >= works.size()) {
            throw new IndexOutOfBoundsException("no such WORK");
        }
        Work work = works.get(number);
        work.hearSilence(today);
        return work;
    }

    private Survey surveyAt(int number) {
        if (number < 0 || number >= surveyed.size()) {
            throw new IndexOutOfBoundsException("no such SURVEY");
        }
        return surveyed.get(number);
    }

    private Gauge gaugeAt(int number) {
        if (number < 0 || number >= gauges.size()) {
            throw new IndexOutOfBoundsException("no such GAUGE");
        }
        return gauges.get(number);
    }

    private static void checkIndex(int number, int size) {
        if (number < 0 || number >= size) {
            throw new IndexOutOfBoundsException("no such number");
        }
    }

    private static void checkRoom(int size, int most) {
        if (size >= most) {
            throw new IllegalStateException("there are as many as there may be");
        }
    }

    private static void checkSide(int side) {
        checkRange(side, 0, 1);
    }

    private static void checkSegments(int from, int to) {
        checkRange(from, 0, SEGMENTS - 1);
        checkRange(to, from, SEGMENTS - 1);
    }

    private static void checkLeast(int value, int least) {
        if (value < least) {
            throw new IllegalArgumentException("below its least");
        }
    }

    private static void checkRange(int value, int least, int most) {
        if (value < least || value > most) {
            throw new IllegalArgumentException("not in its range");
        }
    }

    // ---- the RULE and its text

    /** The words of a RULE's text; NO_WORD stands for none of them. */
    private enum Word {
        NO_WORD("", false), RAISE("raise", true), CUT("cut", true), DIG("dig", true), COVER("cover", true),
        POST("post", true), REST("rest", true), REPLY("reply", true), SILENCE("silence", true),
        APPOINT("appoint", true), APPEAL("appeal", true), FADE("fade", true), SEASON("season", true),
        NEAR("near", true), HOURS("hours", true), IF("if", false), CONSENT("consent", false),
        DISPUTED("dispute", false), OR("or", false), AND("and", false), NOT("not", false),
        DEPTH("depth", false), CLOSE("close", false), HEIGHT("height", false);

        private static final Word[] ALL = values();
        private final String text;
        private final boolean opensClause;

        Word(String text, boolean opensClause) {
            this.text = text;
            this.opensClause = opensClause;
        }

        /** The word that is all of the bytes from one place to (not at) another. */
        static Word of(byte[] bytes, int from, int end) {
            if (from < 0 || end > bytes.length) {
                return NO_WORD;
            }
            for (int i = 0; i < ALL.length; i++) {
                String text = ALL[i].text;
                int same = 0;
                while (same < text.length() && from + same < end && bytes[from + same] == text.charAt(same)) {
                    same++;
                }
                if (same == text.length() && from + same == end) {
                    return ALL[i];
                }
            }
            return NO_WORD;
        }
    }

    /** What a RULE says; one without clauses says what holds without. */
    private static final class Rule {
        // A condition is kept as steps on a stack of truths, so that no tree need be walked:
        // a comparison puts a truth on it, NOT turns the top one, AND and OR make one of two.
        static final int NOT_STEP = -1;
        static final int AND_STEP = -2;
        static final int OR_STEP = -3;
        // A comparison is (2 * measure + (1 if ">")) * BASE + number.
        static final int BASE = 10_000;

        int clauses;
        final int[] noticeDays = {30, 30, 30, 30};
        final int[][] noticeIf = new int[SORTS][0];
        int post;
        int restDays;
        int reply = 14;
        boolean silenceConsents;
        int appoint = 10;
        int appeal = 14;
        int fade;
        int season = 10;
        int near = 50;
        int firstHour = 8;
        int endHour = 17;

        boolean restsOn(int day) {
            return (restDays >> day % WEEK & 1) == 1;
        }

        boolean restsAlways() {
            return restDays == (1 << WEEK) - 1;
        }

        /** Of each seven days one at least counts, or the RULE rests always and is not asked. */
        int countFrom(int day, int days) {
            int reached = day;
            int left = days;
            for (int step = 0; step < WEEK * days && left > 0; step++) {
                reached++;
                if (!restsOn(reached)) {
                    left--;
                }
            }
            return reached;
        }

        /** The stack is the bits of a long: at most 8 open brackets leave at most 19 truths on it. */
        boolean needsNotice(int sort, int depth, int close, int height) {
            int[] steps = noticeIf[sort];
            if (steps.length == 0) {
                return true;
            }
            long stack = 0;
            for (int i = 0; i < steps.length; i++) {
                long top = stack & 1;
                if (steps[i] == NOT_STEP) {
                    stack ^= 1;
                } else if (steps[i] == AND_STEP) {
                    stack = stack >> 1 & (top | ~1L);
                } else if (steps[i] == OR_STEP) {
                    stack = stack >> 1 | top;
                } else {
                    stack = stack << 1 | (compares(steps[i], depth, close, height) ? 1 : 0);
                }
            }
            return (stack & 1) == 1;
        }

        private static boolean compares(int step, int depth, int close, int height) {
            int kind = step / BASE;
            int number = step % BASE;
            int measured = kind / 2 == 0 ? depth : kind / 2 == 1 ? close : height;
            return kind % 2 == 0 ? measured < number : measured > number;
        }
    }

    /**
     * Reads a RULE from the TAPE, one part (a word, an N, or a sign) ahead: what the next part is not
     * is NO_WORD, NONE or NO_SIGN, and behind the last one it is none of the three.
     * What reads a piece of the text answers whether it stands without FAULT.
     */
    private static final class RuleReader {
        private static final int NOT_HERE = 1;
        private static final int NO_SUCH_NUMBER = 2;
        private static final int TOO_MANY = 3;
        private static final char NO_SIGN = 0;

        private final byte[] text;
        private final int[] steps = new int[TAPE_BYTES];
        private int stepCount;
        private int end;
        private int start;
        private int place;
        private Word word = Word.NO_WORD;
        private int number = NONE;
        private char sign = NO_SIGN;
        private int taken;
        private Rule rule = new Rule();
        private int faultKind;
        private int faultPlace = NONE;

        RuleReader(byte[] text) {
            this.text = text;
        }

        int faultKind() {
            return faultKind;
        }

        int faultPlace() {
            return faultPlace;
        }

        /** The RULE of the first bytes; null with a FAULT. */
        Rule readRule(int length) {
            rule = new Rule();
            end = Math.min(length, text.length);
            place = 0;
            faultKind = 0;
            faultPlace = NONE;
            boolean fine = true;
            advance();
            for (int round = 0; round < end && fine && start < end; round++) {
                fine = readClause();
            }
            return fine ? rule : null;
        }

        /** The next part, from its first byte (start) to what is behind it (place). */
        private void advance() {
            word = Word.NO_WORD;
            number = NONE;
            sign = NO_SIGN;
            while (place < end && text[place] == ' ') {
                place++;
            }
            start = place;
            if (isWithin('a', 'z')) {
                while (isWithin('a', 'z')) {
                    place++;
                }
                word = Word.of(text, start, place);
            } else if (isWithin('0', '9')) {
                number = 0;
                while (isWithin('0', '9')) {
                    // Above all that an N may be it is held, however many digits come.
                    number = Math.min(10 * number + text[place] - '0', MOST_MEASURE + 1);
                    place++;
                }
            } else if (place < end) {
                sign = (char) (text[place] & 255);
                place++;
            }
        }

        private boolean isWithin(char first, char last) {
            return place < end && text[place] >= first && text[place] <= last;
        }

        private boolean fail(int kind) {
            faultKind = kind;
            faultPlace = start;
            return false;
        }

        private boolean takeSign(char wanted) {
            if (sign != wanted) {
                return fail(NOT_HERE);
            }
            advance();
            return true;
        }

        private boolean takeNumber(int least, int most) {
            if (number == NONE) {
                return fail(NOT_HERE);
            }
            if (number < least || number > most) {
                return fail(NO_SUCH_NUMBER);
            }
            taken = number;
            advance();
            return true;
        }

        private boolean readClause() {
            Word opening = word;
            if (!opening.opensClause) {
                return fail(NOT_HERE);
            }
            if (rule.clauses >= MOST_CLAUSES) {
                return fail(TOO_MANY);
            }
            rule.clauses++;
            advance();
            boolean fine;
            switch (opening) {
                case RAISE:
                    fine = readNotice(0);
                    break;
                case CUT:
                    fine = readNotice(1);
                    break;
                case DIG:
                    fine = readNotice(2);
                    break;
                case COVER:
                    fine = readNotice(3);
                    break;
                case REST:
                    fine = readRestDays();
                    break;
                case SILENCE:
                    fine = readSilence();
                    break;
                case HOURS:
                    fine = readHours();
                    break;
                default:
                    fine = readSetting(opening);
                    break;
            }
            return fine && takeSign(';');
        }

        private boolean readSetting(Word opening) {
            if (!takeNumber(0, opening == Word.FADE ? 100 : MOST_DAYS)) {
                return false;
            }
            switch (opening) {
                case POST:
                    rule.post = taken;
                    return true;
                case REPLY:
                    rule.reply = taken;
                    return true;
                case APPOINT:
                    rule.appoint = taken;
                    return true;
                case APPEAL:
                    rule.appeal = taken;
                    return true;
                case FADE:
                    rule.fade = taken;
                    return true;
                case SEASON:
                    rule.season = taken;
                    return true;
                default:
                    rule.near = taken;
                    return true;
            }
        }

        private boolean readRestDays() {
            rule.restDays = 0;
            boolean fine = true;
            boolean more = true;
            for (int round = 0; round < end && fine && more; round++) {
                fine = takeNumber(0, WEEK - 1);
                rule.restDays |= 1 << taken;
                more = number != NONE;
            }
            return fine;
        }

        private boolean readSilence() {
            if (word != Word.CONSENT && word != Word.DISPUTED) {
                return fail(NOT_HERE);
            }
            rule.silenceConsents = word == Word.CONSENT;
            advance();
            return true;
        }

        private boolean readHours() {
            if (!takeNumber(0, 24)) {
                return false;
            }
            rule.firstHour = taken;
            if (!takeSign('-') || !takeNumber(rule.firstHour + 1, 24)) {
                return false;
            }
            rule.endHour = taken;
            return true;
        }

        private boolean readNotice(int sort) {
            if (!takeNumber(0, MOST_DAYS)) {
                return false;
            }
            rule.noticeDays[sort] = taken;
            stepCount = 0;
            boolean fine = true;
            if (word == Word.IF) {
                advance();
                fine = readAnyOf(0);
            }
            rule.noticeIf[sort] = Arrays.copyOf(steps, stepCount);
            return fine;
        }

        /** C; open is how many "not" and "(" are open around it. */
        private boolean readAnyOf(int open) {
            boolean fine = readAllOf(open);
            for (int round = 0; round < end && fine && word == Word.OR; round++) {
                advance();
                fine = readAllOf(open) && addStep(Rule.OR_STEP);
            }
            return fine;
        }

        /** A. */
        private boolean readAllOf(int open) {
            boolean fine = readOne(open);
            for (int round = 0; round < end && fine && word == Word.AND; round++) {
                advance();
                fine = readOne(open) && addStep(Rule.AND_STEP);
            }
            return fine;
        }

        /** B. */
        private boolean readOne(int open) {
            boolean isNot = word == Word.NOT;
            if (isNot || sign == '(') {
                if (open >= MOST_OPEN) {
                    return fail(TOO_MANY);
                }
                advance();
                return isNot
                        ? readOne(open + 1) && addStep(Rule.NOT_STEP)
                        : readAnyOf(open + 1) && takeSign(')');
            }
            int measure = measureOf(word);
            if (measure == NONE) {
                return fail(NOT_HERE);
            }
            advance();
            boolean above = sign == '>';
            if (!above && sign != '<') {
                return fail(NOT_HERE);
            }
            advance();
            return takeNumber(0, MOST_MEASURE)
                    && addStep((2 * measure + (above ? 1 : 0)) * Rule.BASE + taken);
        }

        private static int measureOf(Word word) {
            switch (word) {
                case DEPTH:
                    return 0;
                case CLOSE:
                    return 1;
                case HEIGHT:
                    return 2;
                default:
                    return NONE;
            }
        }

        /** There are fewer steps than bytes, so the row never is too short. */
        private boolean addStep(int step) {
            if (stepCount < steps.length) {
                steps[stepCount] = step;
                stepCount++;
            }
            return true;
        }
    }

    // ---- walls and works

    /** A WALL: its owners, and its CELLS in rows of 20 for each SEGMENT. */
    private static final class Wall {
        private final int[] owners = new int[2];
        private final int[] heights = new int[SEGMENTS];
        private final int[] builders = new int[SEGMENTS * MOST_CELLS];
        private final int[] days = new int[SEGMENTS * MOST_CELLS];
        private final int[] costs = new int[SEGMENTS * MOST_CELLS];
        private final int[] users = new int[SEGMENTS * MOST_CELLS];

        Wall(int one, int other) {
            owners[0] = one;
            owners[1] = other;
        }

        int ownerOf(int side) {
            return owners[side];
        }

        void giveTo(int side, int owner) {
            owners[side] = owner;
        }

        boolean hasCell(int segment, int k) {
            return segment >= 0 && segment < SEGMENTS && k >= 0 && k < heights[segment];
        }

        int builderOf(int segment, int k) {
            return builders[segment * MOST_CELLS + k];
        }

        int usersOf(int segment, int k) {
            return users[segment * MOST_CELLS + k];
        }

        int valueOf(int segment, int k, int today, int fade) {
            int cell = segment * MOST_CELLS + k;
            int years = (today - days[cell]) / YEAR;
            return costs[cell] * Math.max(0, 100 - fade * years) / 100;
        }

        int highest(int from, int to) {
            int most = 0;
            for (int segment = from; segment <= to; segment++) {
                most = Math.max(most, heights[segment]);
            }
            return most;
        }

        int cellsInAll() {
            int sum = 0;
            for (int segment = 0; segment < SEGMENTS; segment++) {
                sum += heights[segment];
            }
            return sum;
        }

        void addCell(int segment, int side, int today, int cost) {
            if (heights[segment] >= MOST_CELLS) {
                return;
            }
            int cell = segment * MOST_CELLS + heights[segment];
            builders[cell] = side;
            days[cell] = today;
            costs[cell] = cost;
            users[cell] = 1 << side;
            heights[segment]++;
        }

        int takeHighestOff(int from, int to) {
            int taken = 0;
            for (int segment = from; segment <= to; segment++) {
                if (heights[segment] > 0) {
                    heights[segment]--;
                    taken++;
                }
            }
            return taken;
        }

        /** A SIDE's own CELLS are used by it from the first, so they never are due here. */
        int dueForUse(int segment, int side, int height, int today, int fade) {
            int due = 0;
            for (int k = 0; k < Math.min(height, heights[segment]); k++) {
                if ((usersOf(segment, k) >> side & 1) == 0) {
                    due += valueOf(segment, k, today, fade) / 2;
                }
            }
            return due;
        }

        void markUsed(int segment, int side, int height) {
            for (int k = 0; k < Math.min(height, heights[segment]); k++) {
                users[segment * MOST_CELLS + k] |= 1 << side;
            }
        }
    }

    /** What a SURVEYOR proposes; hours as 100 times from and to. */
    private static final class Proposal {
        final int day;
        final int hours;
        final int share;

        Proposal(int day, int hours, int share) {
            this.day = day;
            this.hours = hours;
            this.share = share;
        }

        boolean isLike(Proposal other) {
            return day == other.day && hours == other.hours && share == other.share;
        }
    }

    /** A WORK, by the RULE that there was when it was told. */
    private static final class Work {
        final Wall wall;
        final int side;
        final int sort;
        final Rule rule;
        int state;
        int arrival = NONE;
        int answerBy = NONE;
        // A DAY just while the WORK is ALLOWED, and from then on if it was begun so.
        int allowedFrom = NONE;
        int disputeFrom = NONE;
        int begunOn = NONE;
        Proposal award;
        // Tells something just while there is an award.
        int awardedOn = NONE;
        final Proposal[] proposals = new Proposal[THIRD + 1];
        final int[] surveyors = {NONE, NONE, NONE};
        int kept;
        int broken;
        int security = NONE;
        boolean settled;

        Work(Wall wall, int side, int sort, Rule rule, boolean needsNotice) {
            this.wall = wall;
            this.side = side;
            this.sort = sort;
            this.rule = rule;
            this.state = needsNotice ? PLANNED : FREE;
        }

        int ownerThere() {
            return wall.ownerOf(side);
        }

        int neighbour() {
            return wall.ownerOf(1 - side);
        }

        void ask(int today) {
            state = ASKED;
            arrival = today + rule.post;
            answerBy = rule.countFrom(arrival, rule.reply);
        }

        void hearSilence(int today) {
            if (state != ASKED || today <= answerBy) {
                return;
            }
            if (rule.silenceConsents) {
                allowByNotice();
            } else {
                disputeFromDay(answerBy + 1);
            }
        }

        void allowByNotice() {
            state = ALLOWED;
            allowedFrom = arrival + rule.noticeDays[sort];
        }

        void disputeFromDay(int day) {
            state = DISPUTE;
            disputeFrom = day;
        }

        int appointBy() {
            return rule.countFrom(disputeFrom, rule.appoint);
        }

        boolean hasAlike(int which, Proposal made) {
            for (int i = 0; i < proposals.length; i++) {
                Proposal other = proposals[i];
                if (i != which && other != null && other.isLike(made)) {
                    return true;
                }
            }
            return false;
        }

        void awardAs(Proposal made, int today) {
            for (int i = 0; i < proposals.length; i++) {
                proposals[i] = null;
            }
            award = made;
            awardedOn = today;
            state = ALLOWED;
            allowedFrom = made.day;
        }

        boolean mayBeAppealed() {
            return award != null && (state == ALLOWED || state == BEGUN);
        }

        int appealBy() {
            return rule.countFrom(awardedOn, rule.appeal);
        }

        void undoAward(int today) {
            award = null;
            allowedFrom = NONE;
            begunOn = NONE;
            disputeFromDay(today);
        }

        void beginOn(int today) {
            boolean mayBegin = state == FREE || state == ALLOWED && today >= allowedFrom;
            state = mayBegin ? BEGUN : VOID;
            begunOn = today;
        }

        boolean mayBeEntered(int today, int hour) {
            return !rule.restsOn(today) && hour >= firstHour() && hour < endHour();
        }

        int firstHour() {
            return award != null ? award.hours / 100 : rule.firstHour;
        }

        int endHour() {
            return award != null ? award.hours % 100 : rule.endHour;
        }

        int share() {
            return award != null ? award.share : 100;
        }
    }

    /** The BOOK: PAYMENTS and how they were MENDED, in the order in which they were written. */
    private static final class Book {
        private final int[] payers = new int[MOST_PAYMENTS];
        private final int[] receivers = new int[MOST_PAYMENTS];
        private final int[] sums = new int[MOST_PAYMENTS];
        private final int[] days = new int[MOST_PAYMENTS];
        private int payments;
        private final int[] mended = new int[MOST_MENDINGS];
        private final int[] mendedSums = new int[MOST_MENDINGS];
        private final int[] mendedDays = new int[MOST_MENDINGS];
        private int mendings;

        int payments() {
            return payments;
        }

        int mendings() {
            return mendings;
        }

        boolean isFull() {
            return payments >= MOST_PAYMENTS;
        }

        void write(int from, int to, int sum, int today) {
            if (payments >= MOST_PAYMENTS) {
                return;
            }
            payers[payments] = from;
            receivers[payments] = to;
            sums[payments] = sum;
            days[payments] = today;
            payments++;
        }

        void mendSum(int payment, int sum, int today) {
            if (mendings >= MOST_MENDINGS) {
                return;
            }
            mended[mendings] = payment;
            mendedSums[mendings] = sum;
            mendedDays[mendings] = today;
            mendings++;
        }

        int payerOf(int payment) {
            return payers[payment];
        }

        int receiverOf(int payment) {
            return receivers[payment];
        }

        int dayOf(int payment) {
            return days[payment];
        }

        /** Days only rise in the row, so the last mending that fits was known last. */
        int sumKnown(int payment, int known) {
            int sum = sums[payment];
            for (int i = 0; i < mendings; i++) {
                if (mended[i] == payment && mendedDays[i] <= known) {
                    sum = mendedSums[i];
                }
            }
            return sum;
        }

        long balanceOf(int owner, int day, int known) {
            long balance = 0;
            for (int i = 0; i < payments; i++) {
                if (days[i] > day || days[i] > known) {
                    continue;
                }
                if (receivers[i] == owner) {
                    balance += sumKnown(i, known);
                }
                if (payers[i] == owner) {
                    balance -= sumKnown(i, known);
                }
            }
            return balance;
        }
    }

    // ---- surveys and gauges

    /** A SURVEY: its CRACKS, each with its TRUE width. */
    private static final class Survey {
        private final int habit;
        private final int[] places = new int[MOST_CRACKS];
        private final int[] trueWidths = new int[MOST_CRACKS];
        private int cracks;

        Survey(int habit) {
            this.habit = habit;
        }

        int cracks() {
            return cracks;
        }

        int placeOf(int crack) {
            return places[crack];
        }

        int trueWidthOf(int crack) {
            return trueWidths[crack];
        }

        boolean isBehind(int place) {
            return cracks > 0 && place < places[cracks - 1];
        }

        void addCrack(int place, int width) {
            if (cracks >= MOST_CRACKS) {
                return;
            }
            places[cracks] = place;
            trueWidths[cracks] = width - habit;
            cracks++;
        }
    }

    /** Joins two SURVEYS; its rows are made once and used for each join. */
    private static final class Joining {
        private static final int WIDTH = MOST_CRACKS + 1;
        // At WIDTH * i + j: what the CRACKS of before from i on and of after from j on reach at best.
        private final int[] most = new int[WIDTH * WIDTH];
        private final int[] least = new int[WIDTH * WIDTH];
        private final int[] partners = new int[MOST_CRACKS];
        private int joined;

        void join(Survey before, Survey after, int near) {
            joined = before.cracks();
            fillFromTheEnd(before, after, near);
            choosePairs(before, after, near);
        }

        private void fillFromTheEnd(Survey before, Survey after, int near) {
            for (int i = before.cracks(); i >= 0; i--) {
                for (int j = after.cracks(); j >= 0; j--) {
                    int here = WIDTH * i + j;
                    most[here] = 0;
                    least[here] = 0;
                    if (i == before.cracks() || j == after.cracks()) {
                        continue;
                    }
                    offer(here, most[here + WIDTH], least[here + WIDTH]);
                    offer(here, most[here + 1], least[here + 1]);
                    int apart = Math.abs(before.placeOf(i) - after.placeOf(j));
                    if (apart <= near) {
                        int behind = here + WIDTH + 1;
                        offer(here, most[behind] + 1, least[behind] + apart);
                    }
                }
            }
        }

        private void offer(int here, int pairs, int apart) {
            if (pairs > most[here] || pairs == most[here] && apart < least[here]) {
                most[here] = pairs;
                least[here] = apart;
            }
        }

        /** Each CRACK of before, from the first on, takes the lowest one that loses nothing behind. */
        private void choosePairs(Survey before, Survey after, int near) {
            int next = 0;
            for (int i = 0; i < before.cracks(); i++) {
                partners[i] = NONE;
                int here = WIDTH * i + next;
                for (int j = next; j < after.cracks() && partners[i] == NONE; j++) {
                    int apart = Math.abs(before.placeOf(i) - after.placeOf(j));
                    int behind = WIDTH * (i + 1) + j + 1;
                    if (apart <= near && most[behind] + 1 == most[here]
                            && least[behind] + apart == least[here]) {
                        partners[i] = j;
                        next = j + 1;
                    }
                }
            }
        }

        int partnerOf(int crack) {
            return crack >= 0 && crack < joined ? partners[crack] : NONE;
        }

        int pairs() {
            return most[0];
        }

        int apart() {
            return least[0];
        }

        int grownByMoreThan(int season, Survey before, Survey after) {
            int grown = 0;
            for (int i = 0; i < joined; i++) {
                int partner = partners[i];
                if (partner != NONE && after.trueWidthOf(partner) - before.trueWidthOf(i) > season) {
                    grown++;
                }
            }
            return grown;
        }
    }

    /** A GAUGE: its READINGS on rising DAYS. */
    private static final class Gauge {
        private final int[] days = new int[MOST_READINGS];
        private final int[] values = new int[MOST_READINGS];
        private int readings;

        int readings() {
            return readings;
        }

        boolean isBehindLast(int day) {
            return readings == 0 || day > days[readings - 1];
        }

        void addReading(int day, int value) {
            if (readings >= MOST_READINGS) {
                return;
            }
            days[readings] = day;
            values[readings] = value;
            readings++;
        }

        boolean covers(int day) {
            return readings > 0 && day >= days[0] && day <= days[readings - 1];
        }

        /** Of a DAY that it covers. */
        int valueOn(int day) {
            int last = 0;
            for (int i = 0; i < readings && days[i] <= day; i++) {
                last = i;
            }
            if (last + 1 >= readings) {
                return values[last];
            }
            int span = days[last + 1] - days[last];
            long rise = values[last + 1] - values[last];
            return values[last] + (int) portion(rise, day - days[last], span);
        }

        long change(int from, int to) {
            return valueOn(to) - valueOn(from);
        }

        /** What would have come by age from one DAY to another, as it came up to the first of them. */
        long ageing(int from, int to) {
            return portion(valueOn(from) - values[0], to - from, from - days[0]);
        }

        private static long portion(long whole, int part, int of) {
            return of == 0 ? 0 : Math.floorDiv(whole * part, (long) of);
        }
    }
}
