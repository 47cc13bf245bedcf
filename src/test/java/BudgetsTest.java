/** Promises 8 to 11: budgets. */
public final class BudgetsTest {
    private static final Checks checks = new Checks();

    public static void main(String[] args) {
        setsPlans();
        setsCarries();
        setsRates();
        carriesOver();
        carriesNoDebt();
        takesCosts();
        leftRefuses();
        checks.end();
    }

    private static void setsPlans() {
        ApprovalGrid desk = new ApprovalGrid();
        checks.same("plan", desk.plan(3, 3, 99999), 0);
        checks.same("plan again", desk.plan(3, 3, 0), 99999);
        checks.same("plan of another period", desk.plan(3, 2, 4), 0);
        checks.same("plan of another kind", desk.plan(2, 3, 5), 0);
        checks.noIndex("kind 4", desk, () -> desk.plan(4, 0, 1));
        checks.noIndex("kind -1", desk, () -> desk.plan(-1, 0, 1));
        checks.noIndex("period 4", desk, () -> desk.plan(0, 4, 1));
        checks.noIndex("period -1, wrong plan", desk, () -> desk.plan(0, -1, -1));
        checks.noArgument("plan -1", desk, () -> desk.plan(3, 2, -1));
        checks.noArgument("plan 100000", desk, () -> desk.plan(3, 2, 100000));
        checks.same("plan as it was", desk.plan(3, 2, 1), 4);
        checks.same("plan of the other kind as it was", desk.plan(2, 3, 1), 5);
    }

    private static void setsCarries() {
        ApprovalGrid desk = new ApprovalGrid();
        checks.same("carry", desk.carry(3, 100), 0);
        checks.same("carry of another kind", desk.carry(2, 4), 0);
        checks.same("carry again", desk.carry(3, 0), 100);
        checks.noIndex("kind 4", desk, () -> desk.carry(4, 0));
        checks.noIndex("kind -1, wrong carry", desk, () -> desk.carry(-1, 101));
        checks.noArgument("carry -1", desk, () -> desk.carry(2, -1));
        checks.noArgument("carry 101", desk, () -> desk.carry(2, 101));
        checks.same("carry as it was", desk.carry(2, 1), 4);
    }

    private static void setsRates() {
        ApprovalGrid desk = new ApprovalGrid();
        checks.same("rate", desk.rate(2, 3, 30), 0);
        checks.same("rate of another kind", desk.rate(2, 2, 4), 0);
        checks.same("rate of another land", desk.rate(1, 3, 5), 0);
        checks.same("rate again", desk.rate(2, 3, 0), 30);
        checks.noIndex("land 3", desk, () -> desk.rate(3, 0, 1));
        checks.noIndex("land -1", desk, () -> desk.rate(-1, 0, 1));
        checks.noIndex("kind 4", desk, () -> desk.rate(0, 4, 1));
        checks.noIndex("kind -1, wrong rate", desk, () -> desk.rate(0, -1, 31));
        checks.noArgument("rate -1", desk, () -> desk.rate(2, 2, -1));
        checks.noArgument("rate 31", desk, () -> desk.rate(2, 2, 31));
        checks.same("rate as it was", desk.rate(2, 2, 1), 4);
        checks.same("rate of the other land as it was", desk.rate(1, 3, 1), 5);
    }

    private static void carriesOver() {
        ApprovalGrid desk = new ApprovalGrid();
        desk.plan(1, 0, 1001);
        desk.plan(1, 1, 100);
        desk.plan(1, 3, 7);
        checks.same("no carry at first", desk.left(1, 1), 100);
        desk.carry(1, 50);
        checks.same("period 0", desk.left(1, 0), 1001);
        checks.same("period 1, cut", desk.left(1, 1), 600);
        checks.same("period 2", desk.left(1, 2), 300);
        checks.same("period 3", desk.left(1, 3), 157);
        checks.same("another kind", desk.left(0, 3), 0);
        desk.plan(1, 0, 99999);
        desk.plan(1, 1, 99999);
        desk.plan(1, 2, 99999);
        desk.plan(1, 3, 99999);
        desk.carry(1, 100);
        checks.same("the most", desk.left(1, 3), 4 * 99999);
    }

    private static void carriesNoDebt() {
        ApprovalGrid desk = Desks.chain(1);
        desk.charge(0, 0, 0, 500, 0);
        desk.plan(0, 0, 300);
        desk.plan(0, 1, 40);
        desk.carry(0, 100);
        checks.same("below 0", desk.left(0, 0), -200);
        checks.same("no debt is carried", desk.left(0, 1), 40);
    }

    private static void takesCosts() {
        ApprovalGrid desk = Desks.chain(3);
        desk.plan(0, 0, 10000);
        desk.plan(0, 1, 20000);
        desk.rate(1, 0, 19);
        desk.rate(0, 0, 30);
        desk.rate(1, 1, 30);
        int charge = desk.charge(2, 0, 1, 1000, 0);
        checks.same("open: the amount", desk.left(0, 0), 9000);
        desk.receipt(1000, 0, 0);
        checks.same("matched: less tax, cut", desk.left(0, 0), 10000 - (1000 - 1000 * 19 / 119));
        desk.refuse(charge, 1);
        checks.same("disputed: the amount", desk.left(0, 0), 9000);
        desk.settle(charge, false);
        desk.approve(charge, 1);
        checks.same("approved: less tax", desk.approve(charge, 0), 2);
        checks.same("approved: less tax", desk.left(0, 0), 10000 - (1000 - 1000 * 19 / 119));
        desk.rate(1, 0, 0);
        checks.same("a new rate is for all charges", desk.left(0, 0), 9000);
        checks.same("another kind", desk.left(1, 0), 99999);
        checks.same("another period", desk.left(0, 1), 20000);
        Desks.days(desk, 29);
        int last = desk.charge(2, 0, 0, 10, 0);
        checks.same("on the last day of the period", desk.left(0, 0), 8990);
        desk.day();
        desk.charge(2, 0, 0, 20, 1);
        checks.same("on the first day of the next one", desk.left(0, 1), 19980);
        desk.receipt(10, 29, 0);
        desk.refuse(last, 1);
        desk.settle(last, true);
        checks.same("repaid: 0", desk.left(0, 0), 9000);
    }

    private static void leftRefuses() {
        ApprovalGrid desk = Desks.chain(1);
        checks.noIndex("kind 4", desk, () -> desk.left(4, 0));
        checks.noIndex("kind -1", desk, () -> desk.left(-1, 0));
        checks.noIndex("period 4", desk, () -> desk.left(0, 4));
        checks.noIndex("period -1", desk, () -> desk.left(0, -1));
    }
}
