/** Promises 21 to 23: days, counts and the mean of trust. */
public final class DaysTest {
    private static final Checks checks = new Checks();

    public static void main(String[] args) {
        daysPass();
        missingAndRepaid();
        onlyOpenOnes();
        oldBySplit();
        trustNotBelowZero();
        counts();
        meansTrust();
        checks.end();
    }

    private static void daysPass() {
        ApprovalGrid desk = new ApprovalGrid();
        for (int day = 1; day <= 119; day++) {
            checks.same("day", desk.day(), 0);
            checks.same("the day", desk.many(10), day);
        }
        checks.noState("day 120", desk, () -> desk.day());
        checks.same("still the last day", desk.many(10), 119);
    }

    private static void missingAndRepaid() {
        ApprovalGrid desk = Desks.chain(3);
        desk.charge(2, 0, 0, 100, 0);
        desk.charge(2, 0, 0, 200, 0);
        desk.charge(1, 0, 0, 300, 0);
        desk.day();
        desk.charge(1, 0, 0, 400, 0);
        for (int day = 2; day <= 20; day++) {
            int due = day == 8 || day == 15 ? 3 : day == 9 || day == 16 ? 1 : 0;
            checks.same("by day " + day, desk.day(), due);
            checks.same("trust of 2", desk.ofPerson(2, 1), day < 8 ? 5 : day < 15 ? 3 : 1);
            checks.same("missing", desk.ofCharge(0, 11), day < 8 ? 0 : 1);
            checks.same("state", desk.ofCharge(0, 4), day < 15 ? 0 : 3);
            checks.same("state of the later one", desk.ofCharge(3, 4), day < 16 ? 0 : 3);
        }
        checks.same("trust of 1", desk.ofPerson(1, 1), 1);
        checks.same("trust of 0", desk.ofPerson(0, 1), 5);
        checks.same("points stay", desk.ofPerson(2, 2), 0);
    }

    private static void onlyOpenOnes() {
        ApprovalGrid desk = Desks.chain(3);
        int charge = Desks.matched(desk, 2, 100);
        int disputed = Desks.matched(desk, 2, 200);
        desk.refuse(disputed, 1);
        for (int day = 1; day <= 20; day++) {
            checks.same("nothing open", desk.day(), 0);
        }
        checks.same("never missing", desk.ofCharge(charge, 11) + desk.ofCharge(disputed, 11), 0);
        checks.same("trust", desk.ofPerson(2, 1), 5);
    }

    private static void oldBySplit() {
        ApprovalGrid desk = Desks.chain(3);
        int ten = Desks.matched(desk, 2, 100);
        int twenty = Desks.matched(desk, 1, 200);
        Desks.days(desk, 10);
        desk.split(ten);
        checks.same("11 days ago: nothing", desk.day(), 0);
        checks.same("not missing", desk.ofCharge(ten, 11), 0);
        Desks.days(desk, 3);
        checks.same("15 days ago", desk.day(), 1);
        checks.same("repaid", desk.ofCharge(ten, 4), 3);
        checks.same("never missing", desk.ofCharge(ten, 11), 0);
        Desks.days(desk, 5);
        desk.split(twenty);
        checks.same("open though so old", desk.ofCharge(twenty, 4), 0);
        checks.same("21 days ago", desk.day(), 1);
        checks.same("repaid", desk.ofCharge(twenty, 4), 3);
        checks.same("trust", desk.ofPerson(1, 1), 4);
    }

    private static void trustNotBelowZero() {
        ApprovalGrid desk = Desks.chain(1);
        for (int i = 0; i < 4; i++) {
            desk.charge(0, 0, 0, 100, 0);
        }
        Desks.days(desk, 15);
        checks.same("8 less, not below 0", desk.ofPerson(0, 1), 0);
        checks.same("half of the limit", desk.maySpend(0, 0, 0), 9999 * 5 / 10);
    }

    private static void counts() {
        ApprovalGrid desk = Desks.chain(3);
        desk.rate(0, 0, 10);
        desk.trip(2, 1, 0, 1, 5);
        int[] amounts = {110, 220, 330, 440, 550, 660};
        for (int amount : amounts) {
            desk.charge(2, 0, 0, amount, 0);
        }
        for (int i = 0; i < 5; i++) {
            desk.receipt(amounts[i], 0, 0);
        }
        desk.receipt(9999, 0, 0);
        desk.receipt(9998, 0, 0);
        desk.approve(0, 1);
        desk.refuse(1, 1);
        desk.refuse(2, 1);
        desk.settle(2, true);
        int[] due = {3, 1, 6, 1, 2, 1, 1, 1, 7, 2, 0, 110 + 220 + 440 + 550 + 660, 100 + 220 + 400 + 500 + 660};
        for (int what = 0; what < due.length; what++) {
            checks.same("many of " + what, desk.many(what), due[what]);
        }
        checks.noArgument("many of -1", desk, () -> desk.many(-1));
        checks.noArgument("many of 13", desk, () -> desk.many(13));
    }

    private static void meansTrust() {
        ApprovalGrid desk = new ApprovalGrid();
        checks.same("of nobody", desk.meanTrust(), 0.0);
        desk.person(-1);
        checks.same("of one", desk.meanTrust(), 5.0);
        desk.person(0);
        desk.person(0);
        desk.limit(2, 0, 100);
        desk.plan(0, 0, 100);
        desk.charge(2, 0, 0, 100, 0);
        Desks.days(desk, 8);
        checks.same("not cut", desk.meanTrust(), 14.0 / 3);
    }
}
