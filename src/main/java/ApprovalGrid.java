import java.util.ArrayList;

/**
 * A spending desk: cards with limits, charges, receipts, budgets and a chain that approves.
 * What each call does is not told here once more: the numbered promises of ../shared/DOC.md say it.
 */
public final class ApprovalGrid {
    private static final int NONE = -1;

    private static final int KINDS = 4;
    private static final int LANDS = 3;
    private static final int PERIODS = 4;
    private static final int DAYS_OF_PERIOD = 30;
    private static final int LAST_DAY = 119;

    private static final int MOST_PEOPLE = 8;
    private static final int MOST_TRIPS = 8;
    private static final int MOST_CHARGES = 30;
    private static final int MOST_RECEIPTS = 30;

    private static final int MOST_AMOUNT = 9999;
    private static final int MOST_TEXT = 9;
    private static final int MOST_PLAN = 99999;
    private static final int MOST_CARRY = 100;
    private static final int MOST_RATE = 30;

    private static final int FIRST_TRUST = 5;
    private static final int MOST_TRUST = 10;
    private static final int POINTS_OF_TRUST = 3;
    private static final int DAYS_OF_LIMIT = 10;
    private static final int DAYS_FOR_POINT = 7;
    private static final int DAYS_TO_MISSING = 8;
    private static final int DAYS_TO_REPAID = 15;
    private static final int MOST_DAYS_BEHIND = 30;

    private static final int OPEN = 0;
    private static final int MATCHED = 1;
    private static final int APPROVED = 2;
    private static final int REPAID = 3;
    private static final int DISPUTED = 4;

    private final ArrayList<Person> people = new ArrayList<>();
    private final ArrayList<Trip> trips = new ArrayList<>();
    private final ArrayList<Charge> charges = new ArrayList<>();
    private final ArrayList<Receipt> receipts = new ArrayList<>();
    private final Table limits = new Table(MOST_PEOPLE, KINDS);
    private final Table plans = new Table(KINDS, PERIODS);
    private final Table carries = new Table(KINDS, 1);
    private final Table rates = new Table(LANDS, KINDS);
    private int today = 0;

    public ApprovalGrid() {
    }

    // ---- people

    public int person(int boss) throws IndexOutOfBoundsException, IllegalStateException {
        Person above = boss == NONE ? null : personAt(boss);
        if (people.size() >= MOST_PEOPLE) {
            throw new IllegalStateException("there are 8 people");
        }
        Person added = new Person(people.size(), above);
        people.add(added);
        return added.number;
    }

    public int limit(int person, int kind, int limit) throws IndexOutOfBoundsException, IllegalArgumentException {
        Person owner = personAt(person);
        checkKind(kind);
        checkRange(limit, 0, MOST_AMOUNT);
        return limits.replace(owner.number, kind, limit);
    }

    public boolean away(int person, int day, int other) throws IndexOutOfBoundsException, IllegalArgumentException {
        Person absent = personAt(person);
        Person standIn = personAt(other);
        checkRange(day, 0, LAST_DAY);
        if (other == person) {
            throw new IllegalArgumentException("nobody stands in for oneself");
        }
        boolean wasAway = absent.isAwayOn(today);
        absent.awayUntil = day;
        absent.standIn = standIn;
        passSteps();
        return wasAway;
    }

    public int trip(int person, int land, int from, int to, int extra)
            throws IndexOutOfBoundsException, IllegalArgumentException, IllegalStateException {
        Person traveller = personAt(person);
        checkLand(land);
        checkRange(from, 0, LAST_DAY);
        checkRange(to, from, LAST_DAY);
        checkRange(extra, 0, MOST_AMOUNT);
        if (trips.size() >= MOST_TRIPS) {
            throw new IllegalStateException("there are 8 trips");
        }
        Trip added = new Trip(trips.size(), traveller, land, from, to, extra);
        trips.add(added);
        return added.number;
    }

    public int ofPerson(int person, int what) throws IndexOutOfBoundsException, IllegalArgumentException {
        Person asked = personAt(person);
        checkRange(what, 0, 6);
        switch (what) {
            case 0:
                return numberOf(asked.boss);
            case 1:
                return asked.trust;
            case 2:
                return asked.points;
            case 3:
                return asked.isAwayOn(today) ? 1 : 0;
            case 4:
                return countOpenOf(asked);
            case 5:
                return repaidAmountOf(asked);
            default:
                return countToApproveBy(asked);
        }
    }

    public int maySpend(int person, int kind, int land) throws IndexOutOfBoundsException {
        Person spender = personAt(person);
        checkKind(kind);
        checkLand(land);
        return spendableBy(spender, kind, land);
    }

    // ---- budgets

    public int plan(int kind, int period, int plan) throws IndexOutOfBoundsException, IllegalArgumentException {
        checkKind(kind);
        checkPeriod(period);
        checkRange(plan, 0, MOST_PLAN);
        return plans.replace(kind, period, plan);
    }

    public int carry(int kind, int carry) throws IndexOutOfBoundsException, IllegalArgumentException {
        checkKind(kind);
        checkRange(carry, 0, MOST_CARRY);
        return carries.replace(kind, 0, carry);
    }

    public int rate(int land, int kind, int rate) throws IndexOutOfBoundsException, IllegalArgumentException {
        checkLand(land);
        checkKind(kind);
        checkRange(rate, 0, MOST_RATE);
        return rates.replace(land, kind, rate);
    }

    public int left(int kind, int period) throws IndexOutOfBoundsException {
        checkKind(kind);
        checkPeriod(period);
        return leftOf(kind, period, false);
    }

    // ---- charges and receipts

    public int charge(int person, int kind, int land, int amount, int text)
            throws IndexOutOfBoundsException, IllegalArgumentException, IllegalStateException {
        Person spender = personAt(person);
        checkKind(kind);
        checkLand(land);
        checkRange(amount, 1, MOST_AMOUNT);
        checkRange(text, 0, MOST_TEXT);
        if (charges.size() >= MOST_CHARGES) {
            throw new IllegalStateException("there are 30 charges");
        }
        if (amount > spendableBy(spender, kind, land) || amount > leftOf(kind, today / DAYS_OF_PERIOD, false)) {
            throw new IllegalStateException("the amount is more than there is");
        }
        Charge come = new Charge(charges.size(), spender, kind, land, amount, text, today);
        come.trip = tripToday(spender, land);
        charges.add(come);
        matchPairs();
        passSteps();
        return come.number;
    }

    public int receipt(int amount, int day, int text) throws IllegalArgumentException, IllegalStateException {
        checkReceipt(amount, day, text);
        if (receipts.size() >= MOST_RECEIPTS) {
            throw new IllegalStateException("there are 30 receipts");
        }
        Receipt come = new Receipt(receipts.size(), amount, day, text);
        receipts.add(come);
        matchPairs();
        passSteps();
        return numberOf(come.charge);
    }

    public int split(int charge) throws IndexOutOfBoundsException, IllegalStateException {
        Charge parted = chargeAt(charge);
        checkState(parted, MATCHED);
        parted.partFromReceipt();
        matchPairs();
        passSteps();
        return parted.state;
    }

    public int approve(int charge, int person) throws IndexOutOfBoundsException, IllegalStateException {
        Charge judged = chargeAt(charge);
        Person judge = personAt(person);
        checkNextApprover(judged, judge);
        judged.steps++;
        passSteps();
        return judged.state;
    }

    public int refuse(int charge, int person) throws IndexOutOfBoundsException, IllegalStateException {
        Charge judged = chargeAt(charge);
        Person judge = personAt(person);
        checkNextApprover(judged, judge);
        judged.state = DISPUTED;
        passSteps();
        return countInState(DISPUTED);
    }

    public int settle(int charge, boolean isRepaid) throws IndexOutOfBoundsException, IllegalStateException {
        Charge settled = chargeAt(charge);
        checkState(settled, DISPUTED);
        if (isRepaid) {
            settled.state = REPAID;
        } else {
            settled.state = MATCHED;
            settled.steps = 0;
        }
        passSteps();
        return settled.state;
    }

    public int ofCharge(int charge, int what) throws IndexOutOfBoundsException, IllegalArgumentException {
        Charge asked = chargeAt(charge);
        checkRange(what, 0, 11);
        switch (what) {
            case 0:
                return asked.person.number;
            case 1:
                return asked.kind;
            case 2:
                return asked.amount;
            case 3:
                return asked.day;
            case 4:
                return asked.state;
            case 5:
                return numberOf(asked.receipt);
            case 6:
                return numberOf(asked.trip);
            case 7:
                return taxOf(asked);
            case 8:
                return costOf(asked, false);
            case 9:
                return asked.steps;
            case 10:
                return numberOf(nextApproverOf(asked));
            default:
                return asked.wasMissing ? 1 : 0;
        }
    }

    public int ofReceipt(int receipt) throws IndexOutOfBoundsException {
        return numberOf(receiptAt(receipt).charge);
    }

    public int score(int charge, int receipt) throws IndexOutOfBoundsException {
        return scoreOf(chargeAt(charge), receiptAt(receipt));
    }

    // ---- days

    public int day() throws IllegalStateException {
        if (today >= LAST_DAY) {
            throw new IllegalStateException("it is the last day");
        }
        today++;
        int count = 0;
        for (int i = 0; i < charges.size(); i++) {
            Charge charge = charges.get(i);
            if (isOverdue(charge)) {
                bearDelay(charge);
                count++;
            }
        }
        passSteps();
        return count;
    }

    public int many(int what) throws IllegalArgumentException {
        checkRange(what, 0, 12);
        switch (what) {
            case 0:
                return people.size();
            case 1:
                return trips.size();
            case 2:
                return charges.size();
            case 8:
                return receipts.size();
            case 9:
                return countFreeReceipts();
            case 10:
                return today;
            case 11:
                return amountNotRepaid();
            case 12:
                return costOfAll();
            default:
                return countInState(what - 3);
        }
    }

    public double meanTrust() {
        int sum = 0;
        for (int i = 0; i < people.size(); i++) {
            sum += people.get(i).trust;
        }
        return people.isEmpty() ? 0.0 : (double) sum / people.size();
    }

    // ---- what would be (nothing is changed)

    public int wouldMatch(int amount, int day, int text) throws IllegalArgumentException {
        checkReceipt(amount, day, text);
        // Between calls no open charge goes together with a free receipt, so only the tried one can find a charge.
        Receipt tried = new Receipt(receipts.size(), amount, day, text);
        Charge best = null;
        int bestScore = NONE;
        for (int i = 0; i < charges.size(); i++) {
            Charge charge = charges.get(i);
            if (goTogether(charge, tried) && scoreOf(charge, tried) > bestScore) {
                best = charge;
                bestScore = scoreOf(charge, tried);
            }
        }
        return numberOf(best);
    }

    public int trustBehind(int person, int days) throws IndexOutOfBoundsException, IllegalArgumentException {
        Person asked = personAt(person);
        checkRange(days, 0, MOST_DAYS_BEHIND);
        // Days alone never bring trust back, so all that is lost can be taken at once and cut at 0 in the end.
        int end = Math.min(today + days, LAST_DAY);
        int lost = 0;
        for (int i = 0; i < charges.size(); i++) {
            Charge charge = charges.get(i);
            if (charge.person == asked && charge.state == OPEN) {
                lost += trustLostBy(charge, end);
            }
        }
        return Math.max(asked.trust - lost, 0);
    }

    public int leftWith(int kind, int period) throws IndexOutOfBoundsException {
        checkKind(kind);
        checkPeriod(period);
        return leftOf(kind, period, true);
    }

    public long digest() {
        long sum = 58110;
        for (int what = 0; what <= 12; what++) {
            sum = mixed(sum, many(what));
        }
        sum = withPeople(sum);
        sum = withBudgets(sum);
        sum = withCharges(sum);
        for (int i = 0; i < receipts.size(); i++) {
            sum = mixed(sum, ofReceipt(i));
        }
        for (int i = 0; i < people.size(); i++) {
            sum = mixed(sum, trustBehind(i, 20));
        }
        return sum;
    }

    // ---- what the arguments have to be

    private Person personAt(int number) {
        if (number < 0 || number >= people.size()) {
            throw new IndexOutOfBoundsException("no such person");
        }
        return people.get(number);
    }

    private Charge chargeAt(int number) {
        if (number < 0 || number >= charges.size()) {
            throw new IndexOutOfBoundsException("no such charge");
        }
        return charges.get(number);
    }

    private Receipt receiptAt(int number) {
        if (number < 0 || number >= receipts.size()) {
            throw new IndexOutOfBoundsException("no such receipt");
        }
        return receipts.get(number);
    }

    private static void checkKind(int kind) {
        if (kind < 0 || kind >= KINDS) {
            throw new IndexOutOfBoundsException("no such kind");
        }
    }

    private static void checkLand(int land) {
        if (land < 0 || land >= LANDS) {
            throw new IndexOutOfBoundsException("no such land");
        }
    }

    private static void checkPeriod(int period) {
        if (period < 0 || period >= PERIODS) {
            throw new IndexOutOfBoundsException("no such period");
        }
    }

    private static void checkRange(int value, int least, int most) {
        if (value < least || value > most) {
            throw new IllegalArgumentException("a value is out of its range");
        }
    }

    private static void checkReceipt(int amount, int day, int text) {
        checkRange(amount, 1, MOST_AMOUNT);
        checkRange(day, 0, LAST_DAY);
        checkRange(text, 0, MOST_TEXT);
    }

    private static void checkState(Charge charge, int state) {
        if (charge.state != state) {
            throw new IllegalStateException("the charge is in another state");
        }
    }

    private void checkNextApprover(Charge charge, Person person) {
        if (nextApproverOf(charge) != person) {
            throw new IllegalStateException("the charge is not matched, or somebody else has to");
        }
    }

    private static int numberOf(Numbered thing) {
        return thing == null ? NONE : thing.number;
    }

    // ---- what a person may spend

    private Trip tripToday(Person person, int land) {
        for (int i = 0; i < trips.size(); i++) {
            Trip trip = trips.get(i);
            if (trip.person == person && trip.land == land && trip.from <= today && today <= trip.to) {
                return trip;
            }
        }
        return null;
    }

    private int spendableBy(Person person, int kind, int land) {
        Trip trip = tripToday(person, land);
        if (trip != null) {
            return trip.extra - spentOnTrip(trip);
        }
        int limit = limits.at(person.number, kind) * (5 + person.trust) / 10;
        return limit - spentOffTrips(person, kind);
    }

    private int spentOnTrip(Trip trip) {
        int sum = 0;
        for (int i = 0; i < charges.size(); i++) {
            Charge charge = charges.get(i);
            if (charge.trip == trip && charge.state != REPAID) {
                sum += charge.amount;
            }
        }
        return sum;
    }

    private int spentOffTrips(Person person, int kind) {
        int sum = 0;
        for (int i = 0; i < charges.size(); i++) {
            Charge charge = charges.get(i);
            boolean counts = charge.trip == null && charge.state != REPAID && today - charge.day < DAYS_OF_LIMIT;
            if (counts && charge.person == person && charge.kind == kind) {
                sum += charge.amount;
            }
        }
        return sum;
    }

    // ---- what is left of the budgets

    private int leftOf(int kind, int period, boolean isOpenMatched) {
        int rest = 0;
        for (int at = 0; at <= period; at++) {
            int carried = Math.max(rest, 0) * carries.at(kind, 0) / 100;
            rest = plans.at(kind, at) + carried - costIn(kind, at, isOpenMatched);
        }
        return rest;
    }

    private int costIn(int kind, int period, boolean isOpenMatched) {
        int sum = 0;
        for (int i = 0; i < charges.size(); i++) {
            Charge charge = charges.get(i);
            if (charge.kind == kind && charge.day / DAYS_OF_PERIOD == period) {
                sum += costOf(charge, isOpenMatched);
            }
        }
        return sum;
    }

    private int costOf(Charge charge, boolean isOpenMatched) {
        switch (charge.state) {
            case MATCHED:
            case APPROVED:
                return charge.amount - taxOf(charge);
            case REPAID:
                return 0;
            case OPEN:
                return isOpenMatched ? charge.amount - taxOf(charge) : charge.amount;
            default:
                return charge.amount;
        }
    }

    private int taxOf(Charge charge) {
        int rate = rates.at(charge.land, charge.kind);
        int whole = 100 + rate;
        return whole > 0 ? charge.amount * rate / whole : 0;
    }

    // ---- how charges and receipts are matched

    private void matchPairs() {
        // Each round takes an open charge away, so there are no more rounds than charges.
        boolean isAnyLeft = true;
        for (int round = 0; round < MOST_CHARGES && isAnyLeft; round++) {
            isAnyLeft = matchBestPair();
        }
    }

    private boolean matchBestPair() {
        Charge bestCharge = null;
        Receipt bestReceipt = null;
        int bestScore = NONE;
        for (int i = 0; i < charges.size(); i++) {
            Charge charge = charges.get(i);
            Receipt receipt = bestReceiptFor(charge);
            if (receipt != null && scoreOf(charge, receipt) > bestScore) {
                bestCharge = charge;
                bestReceipt = receipt;
                bestScore = scoreOf(charge, receipt);
            }
        }
        if (bestCharge == null || bestReceipt == null) {
            return false;
        }
        match(bestCharge, bestReceipt);
        return true;
    }

    private Receipt bestReceiptFor(Charge charge) {
        Receipt best = null;
        int bestScore = NONE;
        for (int i = 0; i < receipts.size(); i++) {
            Receipt receipt = receipts.get(i);
            if (goTogether(charge, receipt) && scoreOf(charge, receipt) > bestScore) {
                best = receipt;
                bestScore = scoreOf(charge, receipt);
            }
        }
        return best;
    }

    private void match(Charge charge, Receipt receipt) {
        charge.state = MATCHED;
        charge.receipt = receipt;
        receipt.charge = charge;
        if (today - charge.day <= DAYS_FOR_POINT) {
            charge.person.gainPoint();
        }
    }

    private static boolean goTogether(Charge charge, Receipt receipt) {
        return charge.state == OPEN && receipt.charge == null && !charge.wasSplitFrom(receipt)
                && scoreOf(charge, receipt) != NONE;
    }

    private static int scoreOf(Charge charge, Receipt receipt) {
        int amounts = Math.abs(charge.amount - receipt.amount);
        int days = Math.abs(charge.day - receipt.day);
        if (amounts > 10 || days > 3) {
            return NONE;
        }
        int score = 40 - 2 * amounts - 5 * days;
        return charge.text == receipt.text ? score + 20 : score;
    }

    // ---- who approves

    /** The end of each call that can change who approves what; behind all others nothing would be left to pass. */
    private void passSteps() {
        for (int i = 0; i < charges.size(); i++) {
            Charge charge = charges.get(i);
            if (charge.state == MATCHED) {
                passStepsOf(charge);
            }
        }
    }

    private void passStepsOf(Charge charge) {
        int needed = charge.stepsNeeded();
        while (charge.steps < needed && nextApproverOf(charge) == null) {
            charge.steps++;
        }
        if (charge.steps >= needed) {
            charge.state = APPROVED;
        }
    }

    private Person nextApproverOf(Charge charge) {
        Person boss = charge.state == MATCHED ? charge.bossOfNextStep() : null;
        if (boss == null || !boss.isAwayOn(today)) {
            return boss;
        }
        Person standIn = boss.standIn;
        if (standIn == null || standIn == charge.person || standIn.isAwayOn(today)) {
            return null;
        }
        return standIn;
    }

    // ---- how charges grow older

    private boolean isOverdue(Charge charge) {
        int age = today - charge.day;
        return charge.state == OPEN && (age == DAYS_TO_MISSING || age >= DAYS_TO_REPAID);
    }

    private void bearDelay(Charge charge) {
        if (today - charge.day >= DAYS_TO_REPAID) {
            charge.state = REPAID;
        } else {
            charge.wasMissing = true;
        }
        charge.person.loseTrust();
    }

    private int trustLostBy(Charge open, int end) {
        int missingOn = open.day + DAYS_TO_MISSING;
        // An open charge can be older than that by a split; then it is repaid as the next day begins.
        int repaidOn = Math.max(open.day + DAYS_TO_REPAID, today + 1);
        int lost = 0;
        if (missingOn > today && missingOn <= end) {
            lost++;
        }
        if (repaidOn <= end) {
            lost++;
        }
        return lost;
    }

    // ---- counts and sums

    private int countInState(int state) {
        int count = 0;
        for (int i = 0; i < charges.size(); i++) {
            if (charges.get(i).state == state) {
                count++;
            }
        }
        return count;
    }

    private int countOpenOf(Person person) {
        int count = 0;
        for (int i = 0; i < charges.size(); i++) {
            Charge charge = charges.get(i);
            if (charge.person == person && charge.state == OPEN) {
                count++;
            }
        }
        return count;
    }

    private int repaidAmountOf(Person person) {
        int sum = 0;
        for (int i = 0; i < charges.size(); i++) {
            Charge charge = charges.get(i);
            if (charge.person == person && charge.state == REPAID) {
                sum += charge.amount;
            }
        }
        return sum;
    }

    private int countToApproveBy(Person person) {
        int count = 0;
        for (int i = 0; i < charges.size(); i++) {
            if (nextApproverOf(charges.get(i)) == person) {
                count++;
            }
        }
        return count;
    }

    private int countFreeReceipts() {
        int count = 0;
        for (int i = 0; i < receipts.size(); i++) {
            if (receipts.get(i).charge == null) {
                count++;
            }
        }
        return count;
    }

    private int amountNotRepaid() {
        int sum = 0;
        for (int i = 0; i < charges.size(); i++) {
            Charge charge = charges.get(i);
            if (charge.state != REPAID) {
                sum += charge.amount;
            }
        }
        return sum;
    }

    private int costOfAll() {
        int sum = 0;
        for (int i = 0; i < charges.size(); i++) {
            sum += costOf(charges.get(i), false);
        }
        return sum;
    }

    // ---- the parts of the checksum

    private static long mixed(long sum, int value) {
        return sum * 31 + value;
    }

    private long withPeople(long start) {
        long sum = start;
        for (int person = 0; person < people.size(); person++) {
            for (int what = 0; what <= 6; what++) {
                sum = mixed(sum, ofPerson(person, what));
            }
            for (int kind = 0; kind < KINDS; kind++) {
                sum = mixed(sum, maySpend(person, kind, 0));
                sum = mixed(sum, maySpend(person, kind, 1));
            }
        }
        return sum;
    }

    private long withBudgets(long start) {
        long sum = start;
        for (int kind = 0; kind < KINDS; kind++) {
            for (int period = 0; period < PERIODS; period++) {
                sum = mixed(sum, leftOf(kind, period, false));
                sum = mixed(sum, leftOf(kind, period, true));
            }
        }
        return sum;
    }

    private long withCharges(long start) {
        long sum = start;
        for (int charge = 0; charge < charges.size(); charge++) {
            for (int what = 0; what <= 11; what++) {
                sum = mixed(sum, ofCharge(charge, what));
            }
        }
        return sum;
    }

    // ---- what the desk holds

    /** Numbers in rows and columns, 0 at first; a place outside reads as 0, so that no index can go astray. */
    private static final class Table {
        private final int rows;
        private final int columns;
        private final int[] cells;

        Table(int rows, int columns) {
            this.rows = Math.max(rows, 0);
            this.columns = Math.max(columns, 0);
            this.cells = new int[this.rows * this.columns];
        }

        int at(int row, int column) {
            boolean isInside = row >= 0 && row < rows && column >= 0 && column < columns;
            return isInside ? cells[row * columns + column] : 0;
        }

        int replace(int row, int column, int value) {
            int before = at(row, column);
            if (row >= 0 && row < rows && column >= 0 && column < columns) {
                cells[row * columns + column] = value;
            }
            return before;
        }
    }

    /** Lets one numberOf() serve people, trips, charges and receipts, with NONE where there is none. */
    private abstract static class Numbered {
        final int number;

        Numbered(int number) {
            this.number = number;
        }
    }

    private static final class Person extends Numbered {
        final Person boss;
        int trust = FIRST_TRUST;
        int points = 0;
        int awayUntil = NONE;
        Person standIn = null;

        Person(int number, Person boss) {
            super(number);
            this.boss = boss;
        }

        boolean isAwayOn(int day) {
            return awayUntil >= day;
        }

        void gainPoint() {
            points++;
            if (points >= POINTS_OF_TRUST) {
                points = 0;
                trust = Math.min(trust + 1, MOST_TRUST);
            }
        }

        void loseTrust() {
            trust = Math.max(trust - 1, 0);
        }
    }

    private static final class Trip extends Numbered {
        final Person person;
        final int land;
        final int from;
        final int to;
        final int extra;

        Trip(int number, Person person, int land, int from, int to, int extra) {
            super(number);
            this.person = person;
            this.land = land;
            this.from = from;
            this.to = to;
            this.extra = extra;
        }
    }

    private static final class Charge extends Numbered {
        final Person person;
        final int kind;
        final int land;
        final int amount;
        final int text;
        final int day;
        Trip trip = null;
        int state = OPEN;
        Receipt receipt = null;
        int steps = 0;
        boolean wasMissing = false;
        /** One bit for each receipt from which it was split; there are 30, and the one tried beyond them. */
        private int splits = 0;

        Charge(int number, Person person, int kind, int land, int amount, int text, int day) {
            super(number);
            this.person = person;
            this.kind = kind;
            this.land = land;
            this.amount = amount;
            this.text = text;
            this.day = day;
        }

        boolean wasSplitFrom(Receipt other) {
            return (splits & (1 << other.number)) != 0;
        }

        void partFromReceipt() {
            if (receipt != null) {
                splits |= 1 << receipt.number;
                receipt.charge = null;
                receipt = null;
            }
            state = OPEN;
            steps = 0;
        }

        int stepsNeeded() {
            int most = amount > 2000 ? 3 : amount > 500 ? 2 : 1;
            int count = 0;
            for (Person boss = person.boss; boss != null && count < most; boss = boss.boss) {
                count++;
            }
            return count;
        }

        Person bossOfNextStep() {
            Person boss = steps < stepsNeeded() ? person.boss : null;
            for (int step = 0; step < steps && boss != null; step++) {
                boss = boss.boss;
            }
            return boss;
        }
    }

    private static final class Receipt extends Numbered {
        final int amount;
        final int day;
        final int text;
        Charge charge = null;

        Receipt(int number, int amount, int day, int text) {
            super(number);
            this.amount = amount;
            this.day = day;
            this.text = text;
        }
    }
}
