import java.util.Arrays;
import java.util.Random;

/** Random runs of 512 calls, the same ones each time: the class and the model have to answer alike. */
public final class ModelTest {
    private static final int RUNS = 500;
    private static final int CALLS = 512;
    private static final Checks checks = new Checks();

    private interface Call {
        double make();
    }

    private final ApprovalGrid desk = new ApprovalGrid();
    private final DeskModel model = new DeskModel();
    private final Random random;
    private final int seed;
    private final int daysOf100;
    private int calls = 0;

    private ModelTest(int seed) {
        this.seed = seed;
        this.random = new Random(seed);
        this.daysOf100 = 3 + seed % 25;
    }

    public static void main(String[] args) {
        int[] met = new int[5];
        for (int seed = 0; seed < RUNS; seed++) {
            ModelTest run = new ModelTest(seed);
            run.run(met);
        }
        System.out.println("charges met in the states 0 to 4: " + Arrays.toString(met));
        for (int state = 0; state < 5; state++) {
            checks.same("charges are met in state " + state, met[state] > 2 * RUNS, true);
        }
        checks.end();
    }

    private void run(int[] met) {
        // A turn makes three calls at most, and an object is used for no more than 512.
        for (int i = 0; calls <= CALLS - 3 && i < CALLS; i++) {
            turn(i);
            if (i % 8 == 7) {
                calls++;
                checks.same("run " + seed + ", digest()", desk.digest(), model.digest());
                for (int state = 0; state < 5; state++) {
                    met[state] += model.many(3 + state);
                }
            }
        }
    }

    private void turn(int i) {
        int choice = random.nextInt(100);
        if (i < 30) {
            setUp(i);
        } else if (choice < daysOf100) {
            alike("day()", desk::day, model::day);
        } else if (choice < daysOf100 + 45) {
            work();
        } else if (choice < 80) {
            change();
        } else {
            ask();
        }
    }

    private void alike(String call, Call real, Call due) {
        calls++;
        String got = answer(real);
        String want = answer(due);
        checks.same("run " + seed + ", " + call + " " + got + ", due is " + want + ": alike", got.equals(want), true);
    }

    private static String answer(Call call) {
        try {
            return "answered " + call.make();
        } catch (RuntimeException e) {
            return "threw " + e.getClass().getName();
        }
    }

    /** Mostly a number that there is, now and then one that there is not. */
    private int number(int count) {
        if (random.nextInt(40) == 0) {
            return random.nextBoolean() ? count + random.nextInt(2) : -1 - random.nextInt(2);
        }
        return count > 0 ? random.nextInt(count) : 0;
    }

    private int pick(int... values) {
        return values[random.nextInt(values.length)];
    }

    private int amount() {
        if (random.nextInt(30) == 0) {
            return pick(0, 10000, -1, 1, 9999);
        }
        return pick(8, 100, 495, 1995) + random.nextInt(14);
    }

    private int dayNearby() {
        if (random.nextInt(30) == 0) {
            return pick(-1, 120, 119, 0);
        }
        return model.today + random.nextInt(9) - 5;
    }

    private void setUp(int i) {
        if (i < 3 + seed % 6) {
            int boss = random.nextInt(6) == 0 ? pick(-1, -2, 8) : model.men.size() - 1 - random.nextInt(2);
            alike("person(" + boss + ")", () -> desk.person(boss), () -> model.person(boss));
        } else if (i % 2 == 0) {
            limit();
        } else {
            plan();
        }
    }

    private void limit() {
        int man = number(model.men.size());
        int kind = number(4);
        int limit = pick(9999, 5000, 9999, 800, 0, -1, 10000);
        alike("limit(" + man + ", " + kind + ", " + limit + ")", () -> desk.limit(man, kind, limit),
                () -> model.limit(man, kind, limit));
    }

    private void plan() {
        int kind = number(4);
        int period = number(4);
        int plan = pick(99999, 20000, 30000, 9000, 2000, -1, 100000);
        alike("plan(" + kind + ", " + period + ", " + plan + ")", () -> desk.plan(kind, period, plan),
                () -> model.plan(kind, period, plan));
    }

    private void work() {
        switch (random.nextInt(8)) {
            case 0:
            case 1:
                charge();
                break;
            case 2:
            case 3:
                receipt();
                break;
            case 4:
                int parted = number(model.bills.size());
                alike("split(" + parted + ")", () -> desk.split(parted), () -> model.split(parted));
                break;
            case 5:
                judge(true);
                break;
            case 6:
                judge(false);
                break;
            default:
                int settled = number(model.bills.size());
                boolean isRepaid = random.nextInt(4) == 0;
                alike("settle(" + settled + ", " + isRepaid + ")", () -> desk.settle(settled, isRepaid),
                        () -> model.settle(settled, isRepaid));
                break;
        }
    }

    private void charge() {
        if (model.bills.size() > model.today / 3 + 5 && random.nextInt(10) > 0) {
            return;
        }
        int man = number(model.men.size());
        int kind = number(4);
        int land = number(3);
        int amount = amount();
        int text = random.nextInt(40) == 0 ? pick(-1, 10) : random.nextInt(3);
        alike("charge(" + man + ", " + kind + ", " + land + ", " + amount + ", " + text + ")",
                () -> desk.charge(man, kind, land, amount, text), () -> model.charge(man, kind, land, amount, text));
    }

    private void receipt() {
        int[] like = likeOpenCharge();
        int amount = like[0];
        int day = like[1];
        int text = random.nextInt(40) == 0 ? pick(-1, 10) : random.nextInt(3);
        String values = amount + ", " + day + ", " + text + ")";
        alike("wouldMatch(" + values, () -> desk.wouldMatch(amount, day, text),
                () -> model.wouldMatch(amount, day, text));
        if (model.papers.size() <= model.today / 3 + 5 || random.nextInt(10) == 0) {
            alike("receipt(" + values, () -> desk.receipt(amount, day, text), () -> model.receipt(amount, day, text));
        }
    }

    /** An amount and a day near those of an open charge, mostly. */
    private int[] likeOpenCharge() {
        for (DeskModel.Bill bill : model.bills) {
            if (bill.state == 0 && random.nextInt(3) == 0) {
                return new int[] {bill.amount + random.nextInt(25) - 12, bill.day + random.nextInt(9) - 4};
            }
        }
        return new int[] {amount(), dayNearby()};
    }

    private void judge(boolean isGood) {
        int bill = number(model.bills.size());
        int due = bill >= 0 && bill < model.bills.size() ? model.ofCharge(bill, 10) : -1;
        int man = due >= 0 && random.nextInt(5) > 0 ? due : number(model.men.size());
        String values = "(" + bill + ", " + man + ")";
        if (isGood || random.nextInt(3) == 0) {
            alike("approve" + values, () -> desk.approve(bill, man), () -> model.approve(bill, man));
        } else {
            alike("refuse" + values, () -> desk.refuse(bill, man), () -> model.refuse(bill, man));
        }
    }

    private void change() {
        switch (random.nextInt(8)) {
            case 0:
                limit();
                break;
            case 1:
                plan();
                break;
            case 2:
                int kind = number(4);
                int carry = pick(0, 33, 50, 100, -1, 101);
                alike("carry(" + kind + ", " + carry + ")", () -> desk.carry(kind, carry),
                        () -> model.carry(kind, carry));
                break;
            case 3:
                int land = number(3);
                int taxed = number(4);
                int rate = pick(0, 7, 19, 30, -1, 31);
                alike("rate(" + land + ", " + taxed + ", " + rate + ")", () -> desk.rate(land, taxed, rate),
                        () -> model.rate(land, taxed, rate));
                break;
            case 4:
                trip();
                break;
            case 5:
                int boss = number(model.men.size());
                alike("person(" + boss + ")", () -> desk.person(boss), () -> model.person(boss));
                break;
            default:
                int man = number(model.men.size());
                int day = dayNearby();
                int other = number(model.men.size());
                alike("away(" + man + ", " + day + ", " + other + ")", () -> desk.away(man, day, other) ? 1 : 0,
                        () -> model.away(man, day, other) ? 1 : 0);
                break;
        }
    }

    private void trip() {
        if (random.nextInt(3) > 0) {
            return;
        }
        int man = number(model.men.size());
        int land = number(3);
        int from = dayNearby();
        int to = from + random.nextInt(9) - 1;
        int extra = pick(0, 700, 2000, 9999, -1, 10000);
        alike("trip(" + man + ", " + land + ", " + from + ", " + to + ", " + extra + ")",
                () -> desk.trip(man, land, from, to, extra), () -> model.trip(man, land, from, to, extra));
    }

    private void ask() {
        int man = number(model.men.size());
        int bill = number(model.bills.size());
        int paper = number(model.papers.size());
        int kind = number(4);
        int place = number(4);
        int what = number(13);
        switch (random.nextInt(10)) {
            case 0:
                alike("ofPerson", () -> desk.ofPerson(man, what), () -> model.ofPerson(man, what));
                break;
            case 1:
                alike("maySpend", () -> desk.maySpend(man, kind, place), () -> model.maySpend(man, kind, place));
                break;
            case 2:
                alike("left", () -> desk.left(kind, place), () -> model.left(kind, place));
                break;
            case 3:
                alike("leftWith", () -> desk.leftWith(kind, place), () -> model.leftWith(kind, place));
                break;
            case 4:
                alike("ofCharge", () -> desk.ofCharge(bill, what), () -> model.ofCharge(bill, what));
                break;
            case 5:
                alike("ofReceipt", () -> desk.ofReceipt(paper), () -> model.ofReceipt(paper));
                break;
            case 6:
                alike("score", () -> desk.score(bill, paper), () -> model.score(bill, paper));
                break;
            case 7:
                alike("many", () -> desk.many(what), () -> model.many(what));
                break;
            case 8:
                int days = number(31);
                alike("trustBehind", () -> desk.trustBehind(man, days), () -> model.trustBehind(man, days));
                break;
            default:
                alike("meanTrust", desk::meanTrust, model::meanTrust);
                break;
        }
    }
}
