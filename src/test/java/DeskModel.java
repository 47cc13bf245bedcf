import java.util.ArrayList;
import java.util.HashSet;
import java.util.List;
import java.util.Set;

/**
 * The document once more, as plainly as it goes and apart from the class: what would be is found by
 * trying it on a copy. For the random runs of ModelTest.
 */
final class DeskModel {
    static final class Man {
        int boss;
        int trust = 5;
        int points;
        int[] limits = new int[4];
        int until = -1;
        int standIn = -1;
    }

    static final class Bill {
        int man;
        int kind;
        int land;
        int amount;
        int text;
        int day;
        int state;
        int paper = -1;
        int trip = -1;
        int steps;
        boolean missing;
    }

    List<Man> men = new ArrayList<>();
    List<int[]> trips = new ArrayList<>();
    List<Bill> bills = new ArrayList<>();
    List<int[]> papers = new ArrayList<>();
    Set<Integer> parted = new HashSet<>();
    int[][] plans = new int[4][4];
    int[] carries = new int[4];
    int[][] rates = new int[3][4];
    int today;

    DeskModel copy() {
        DeskModel other = new DeskModel();
        for (Man man : men) {
            Man twin = new Man();
            twin.boss = man.boss;
            twin.trust = man.trust;
            twin.points = man.points;
            twin.limits = man.limits.clone();
            twin.until = man.until;
            twin.standIn = man.standIn;
            other.men.add(twin);
        }
        for (Bill bill : bills) {
            Bill twin = new Bill();
            twin.man = bill.man;
            twin.kind = bill.kind;
            twin.land = bill.land;
            twin.amount = bill.amount;
            twin.text = bill.text;
            twin.day = bill.day;
            twin.state = bill.state;
            twin.paper = bill.paper;
            twin.trip = bill.trip;
            twin.steps = bill.steps;
            twin.missing = bill.missing;
            other.bills.add(twin);
        }
        other.trips.addAll(trips);
        other.papers.addAll(papers);
        other.parted.addAll(parted);
        for (int i = 0; i < 4; i++) {
            other.plans[i] = plans[i].clone();
        }
        for (int i = 0; i < 3; i++) {
            other.rates[i] = rates[i].clone();
        }
        other.carries = carries.clone();
        other.today = today;
        return other;
    }

    private static void index(boolean isGood) {
        if (!isGood) {
            throw new IndexOutOfBoundsException();
        }
    }

    private static void argument(boolean isGood) {
        if (!isGood) {
            throw new IllegalArgumentException();
        }
    }

    private static void state(boolean isGood) {
        if (!isGood) {
            throw new IllegalStateException();
        }
    }

    private static boolean in(int value, int least, int most) {
        return least <= value && value <= most;
    }

    private boolean isMan(int man) {
        return in(man, 0, men.size() - 1);
    }

    private boolean isBill(int bill) {
        return in(bill, 0, bills.size() - 1);
    }

    private boolean isAway(int man) {
        return men.get(man).until >= today;
    }

    int person(int boss) {
        index(boss == -1 || isMan(boss));
        state(men.size() < 8);
        Man man = new Man();
        man.boss = boss;
        men.add(man);
        return men.size() - 1;
    }

    int limit(int man, int kind, int limit) {
        index(isMan(man) && in(kind, 0, 3));
        argument(in(limit, 0, 9999));
        int before = men.get(man).limits[kind];
        men.get(man).limits[kind] = limit;
        return before;
    }

    boolean away(int man, int day, int other) {
        index(isMan(man) && isMan(other));
        argument(in(day, 0, 119) && other != man);
        boolean before = isAway(man);
        men.get(man).until = day;
        men.get(man).standIn = other;
        end();
        return before;
    }

    int trip(int man, int land, int from, int to, int extra) {
        index(isMan(man) && in(land, 0, 2));
        argument(in(from, 0, 119) && in(to, 0, 119) && to >= from && in(extra, 0, 9999));
        state(trips.size() < 8);
        trips.add(new int[] {man, land, from, to, extra});
        return trips.size() - 1;
    }

    int ofPerson(int man, int what) {
        index(isMan(man));
        argument(in(what, 0, 6));
        if (what < 4) {
            Man asked = men.get(man);
            return new int[] {asked.boss, asked.trust, asked.points, isAway(man) ? 1 : 0}[what];
        }
        int[] sums = new int[7];
        for (Bill bill : bills) {
            sums[4] += bill.man == man && bill.state == 0 ? 1 : 0;
            sums[5] += bill.man == man && bill.state == 3 ? bill.amount : 0;
            sums[6] += bill.state == 1 && approver(bill) == man ? 1 : 0;
        }
        return sums[what];
    }

    private int tripNow(int man, int land) {
        for (int i = 0; i < trips.size(); i++) {
            int[] trip = trips.get(i);
            if (trip[0] == man && trip[1] == land && in(today, trip[2], trip[3])) {
                return i;
            }
        }
        return -1;
    }

    int maySpend(int man, int kind, int land) {
        index(isMan(man) && in(kind, 0, 3) && in(land, 0, 2));
        int trip = tripNow(man, land);
        int rest = trip >= 0 ? trips.get(trip)[4] : men.get(man).limits[kind] * (5 + men.get(man).trust) / 10;
        for (Bill bill : bills) {
            boolean isOfTrip = trip >= 0 && bill.trip == trip;
            boolean isOfLimit = trip < 0 && bill.trip < 0 && bill.man == man && bill.kind == kind
                    && in(bill.day, today - 9, today);
            if (bill.state != 3 && (isOfTrip || isOfLimit)) {
                rest -= bill.amount;
            }
        }
        return rest;
    }

    int plan(int kind, int period, int plan) {
        index(in(kind, 0, 3) && in(period, 0, 3));
        argument(in(plan, 0, 99999));
        int before = plans[kind][period];
        plans[kind][period] = plan;
        return before;
    }

    int carry(int kind, int carry) {
        index(in(kind, 0, 3));
        argument(in(carry, 0, 100));
        int before = carries[kind];
        carries[kind] = carry;
        return before;
    }

    int rate(int land, int kind, int rate) {
        index(in(land, 0, 2) && in(kind, 0, 3));
        argument(in(rate, 0, 30));
        int before = rates[land][kind];
        rates[land][kind] = rate;
        return before;
    }

    private int tax(Bill bill) {
        return bill.amount * rates[bill.land][bill.kind] / (100 + rates[bill.land][bill.kind]);
    }

    private int cost(Bill bill) {
        return bill.state == 3 ? 0 : bill.state == 1 || bill.state == 2 ? bill.amount - tax(bill) : bill.amount;
    }

    int left(int kind, int period) {
        index(in(kind, 0, 3) && in(period, 0, 3));
        int left = plans[kind][period];
        if (period > 0) {
            left += Math.max(0, left(kind, period - 1) * carries[kind] / 100);
        }
        for (Bill bill : bills) {
            left -= bill.kind == kind && bill.day / 30 == period ? cost(bill) : 0;
        }
        return left;
    }

    int charge(int man, int kind, int land, int amount, int text) {
        index(isMan(man) && in(kind, 0, 3) && in(land, 0, 2));
        argument(in(amount, 1, 9999) && in(text, 0, 9));
        state(bills.size() < 30 && amount <= maySpend(man, kind, land) && amount <= left(kind, today / 30));
        Bill bill = new Bill();
        bill.man = man;
        bill.kind = kind;
        bill.land = land;
        bill.amount = amount;
        bill.text = text;
        bill.day = today;
        bill.trip = tripNow(man, land);
        bills.add(bill);
        match();
        end();
        return bills.size() - 1;
    }

    int receipt(int amount, int day, int text) {
        argument(in(amount, 1, 9999) && in(day, 0, 119) && in(text, 0, 9));
        state(papers.size() < 30);
        papers.add(new int[] {amount, day, text});
        match();
        end();
        return ofReceipt(papers.size() - 1);
    }

    private boolean isTogether(int bill, int paper) {
        return bills.get(bill).state == 0 && ofReceipt(paper) == -1 && !parted.contains(bill * 100 + paper)
                && score(bill, paper) != -1;
    }

    private void match() {
        while (true) {
            int best = -1;
            int bestBill = -1;
            int bestPaper = -1;
            for (int paper = papers.size() - 1; paper >= 0; paper--) {
                for (int bill = bills.size() - 1; bill >= 0; bill--) {
                    if (!isTogether(bill, paper)) {
                        continue;
                    }
                    int score = score(bill, paper);
                    boolean isSmaller = bill < bestBill || (bill == bestBill && paper < bestPaper);
                    if (score > best || (score == best && isSmaller)) {
                        best = score;
                        bestBill = bill;
                        bestPaper = paper;
                    }
                }
            }
            if (best == -1) {
                return;
            }
            Bill bill = bills.get(bestBill);
            bill.state = 1;
            bill.paper = bestPaper;
            Man man = men.get(bill.man);
            if (today - bill.day <= 7) {
                man.points++;
            }
            if (man.points == 3) {
                man.points = 0;
                man.trust = man.trust == 10 ? 10 : man.trust + 1;
            }
        }
    }

    int split(int number) {
        index(isBill(number));
        Bill bill = bills.get(number);
        state(bill.state == 1);
        parted.add(number * 100 + bill.paper);
        bill.state = 0;
        bill.paper = -1;
        bill.steps = 0;
        match();
        end();
        return bill.state;
    }

    /** The bosses who have a step of the charge, in their order. */
    private List<Integer> chain(Bill bill) {
        List<Integer> chain = new ArrayList<>();
        int boss = men.get(bill.man).boss;
        while (boss != -1) {
            chain.add(boss);
            boss = men.get(boss).boss;
        }
        int steps = bill.amount > 2000 ? 3 : bill.amount > 500 ? 2 : 1;
        return chain.subList(0, Math.min(steps, chain.size()));
    }

    private int approver(Bill bill) {
        List<Integer> chain = chain(bill);
        if (bill.steps >= chain.size()) {
            return -1;
        }
        int boss = chain.get(bill.steps);
        if (!isAway(boss)) {
            return boss;
        }
        int other = men.get(boss).standIn;
        return other == bill.man || isAway(other) ? -1 : other;
    }

    private void end() {
        for (Bill bill : bills) {
            if (bill.state == 1) {
                int steps = chain(bill).size();
                while (bill.steps < steps && approver(bill) == -1) {
                    bill.steps++;
                }
                bill.state = bill.steps == steps ? 2 : 1;
            }
        }
    }

    int approve(int number, int man) {
        index(isBill(number) && isMan(man));
        Bill bill = bills.get(number);
        state(bill.state == 1 && approver(bill) == man);
        bill.steps++;
        end();
        return bill.state;
    }

    int refuse(int number, int man) {
        index(isBill(number) && isMan(man));
        Bill bill = bills.get(number);
        state(bill.state == 1 && approver(bill) == man);
        bill.state = 4;
        end();
        return many(7);
    }

    int settle(int number, boolean isRepaid) {
        index(isBill(number));
        Bill bill = bills.get(number);
        state(bill.state == 4);
        bill.state = isRepaid ? 3 : 1;
        bill.steps = isRepaid ? bill.steps : 0;
        end();
        return bill.state;
    }

    int ofCharge(int number, int what) {
        index(isBill(number));
        argument(in(what, 0, 11));
        Bill bill = bills.get(number);
        int approver = bill.state == 1 ? approver(bill) : -1;
        return new int[] {bill.man, bill.kind, bill.amount, bill.day, bill.state, bill.paper, bill.trip, tax(bill),
            cost(bill), bill.steps, approver, bill.missing ? 1 : 0}[what];
    }

    int ofReceipt(int paper) {
        index(in(paper, 0, papers.size() - 1));
        for (int bill = 0; bill < bills.size(); bill++) {
            if (bills.get(bill).paper == paper) {
                return bill;
            }
        }
        return -1;
    }

    int score(int number, int paper) {
        index(isBill(number) && in(paper, 0, papers.size() - 1));
        Bill bill = bills.get(number);
        int[] other = papers.get(paper);
        if (!in(bill.amount - other[0], -10, 10) || !in(bill.day - other[1], -3, 3)) {
            return -1;
        }
        return 40 - 2 * Math.abs(bill.amount - other[0]) - 5 * Math.abs(bill.day - other[1])
                + (bill.text == other[2] ? 20 : 0);
    }

    int day() {
        state(today < 119);
        today++;
        int count = 0;
        for (Bill bill : bills) {
            int age = today - bill.day;
            if (bill.state == 0 && (age == 8 || age >= 15)) {
                count++;
                men.get(bill.man).trust = Math.max(0, men.get(bill.man).trust - 1);
                bill.missing |= age == 8;
                bill.state = age == 8 ? 0 : 3;
            }
        }
        end();
        return count;
    }

    int many(int what) {
        argument(in(what, 0, 12));
        int[] all = new int[13];
        all[0] = men.size();
        all[1] = trips.size();
        all[2] = bills.size();
        all[8] = papers.size();
        for (int paper = 0; paper < papers.size(); paper++) {
            all[9] += ofReceipt(paper) == -1 ? 1 : 0;
        }
        all[10] = today;
        for (Bill bill : bills) {
            all[3 + bill.state]++;
            all[11] += bill.state == 3 ? 0 : bill.amount;
            all[12] += cost(bill);
        }
        return all[what];
    }

    double meanTrust() {
        double sum = 0;
        for (Man man : men) {
            sum += man.trust;
        }
        return men.isEmpty() ? 0 : sum / men.size();
    }

    int wouldMatch(int amount, int day, int text) {
        argument(in(amount, 1, 9999) && in(day, 0, 119) && in(text, 0, 9));
        DeskModel other = copy();
        other.papers.add(new int[] {amount, day, text});
        other.match();
        return other.ofReceipt(papers.size());
    }

    int trustBehind(int man, int days) {
        index(isMan(man));
        argument(in(days, 0, 30));
        DeskModel other = copy();
        for (int i = 0; i < days && other.today < 119; i++) {
            other.day();
        }
        return other.men.get(man).trust;
    }

    int leftWith(int kind, int period) {
        index(in(kind, 0, 3) && in(period, 0, 3));
        DeskModel other = copy();
        for (Bill bill : other.bills) {
            bill.state = bill.state == 0 ? 1 : bill.state;
        }
        return other.left(kind, period);
    }

    long digest() {
        long sum = 58110;
        for (int what = 0; what <= 12; what++) {
            sum = sum * 31 + many(what);
        }
        for (int man = 0; man < men.size(); man++) {
            for (int what = 0; what <= 6; what++) {
                sum = sum * 31 + ofPerson(man, what);
            }
            for (int kind = 0; kind <= 3; kind++) {
                sum = (sum * 31 + maySpend(man, kind, 0)) * 31 + maySpend(man, kind, 1);
            }
        }
        for (int kind = 0; kind <= 3; kind++) {
            for (int period = 0; period <= 3; period++) {
                sum = (sum * 31 + left(kind, period)) * 31 + leftWith(kind, period);
            }
        }
        for (int bill = 0; bill < bills.size(); bill++) {
            for (int what = 0; what <= 11; what++) {
                sum = sum * 31 + ofCharge(bill, what);
            }
        }
        for (int paper = 0; paper < papers.size(); paper++) {
            sum = sum * 31 + ofReceipt(paper);
        }
        for (int man = 0; man < men.size(); man++) {
            sum = sum * 31 + trustBehind(man, 20);
        }
        return sum;
    }
}
