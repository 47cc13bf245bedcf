/** Promises 15 to 17, and who approves: approve, refuse and settle. */
public final class ApprovalTest {
    private static final Checks checks = new Checks();

    public static void main(String[] args) {
        stepsByAmount();
        noBossNoSteps();
        approves();
        approveRefuses();
        standsIn();
        nobodyStandsIn();
        leftOutStaysLeftOut();
        refuses();
        refuseRefuses();
        settlesMatched();
        settlesRepaid();
        settleRefuses();
        checks.end();
    }

    private static void stepsByAmount() {
        int[][] dues = {{1, 1}, {500, 1}, {501, 2}, {2000, 2}, {2001, 3}, {9999, 3}};
        for (int[] due : dues) {
            ApprovalGrid desk = Desks.chain(6);
            int charge = Desks.matched(desk, 5, due[0]);
            for (int step = 0; step < due[1]; step++) {
                checks.same("who approves step " + step, desk.ofCharge(charge, 10), 4 - step);
                checks.same("steps behind it", desk.ofCharge(charge, 9), step);
                checks.same("approve", desk.approve(charge, 4 - step), step + 1 < due[1] ? 1 : 2);
            }
            checks.same("steps of " + due[0], desk.ofCharge(charge, 9), due[1]);
            checks.same("approved", desk.ofCharge(charge, 4), 2);
            checks.same("nobody more", desk.ofCharge(charge, 10), -1);
        }
    }

    private static void noBossNoSteps() {
        ApprovalGrid desk = Desks.chain(2);
        int own = Desks.matched(desk, 0, 9999);
        checks.same("no boss: approved at once", desk.ofCharge(own, 4), 2);
        checks.same("without steps", desk.ofCharge(own, 9), 0);
        checks.same("with its receipt", desk.ofCharge(own, 5), 0);
        int shorter = Desks.matched(desk, 1, 9000);
        checks.same("one boss: one step", desk.approve(shorter, 0), 2);
        checks.same("one step", desk.ofCharge(shorter, 9), 1);
    }

    private static void approves() {
        ApprovalGrid desk = Desks.chain(4);
        int charge = Desks.matched(desk, 3, 2500);
        checks.same("0", desk.approve(charge, 2), 1);
        checks.same("1", desk.approve(charge, 1), 1);
        checks.same("2", desk.approve(charge, 0), 2);
        checks.same("approved", desk.many(5), 1);
        checks.same("none matched", desk.many(4), 0);
    }

    private static void approveRefuses() {
        ApprovalGrid desk = Desks.chain(4);
        int charge = desk.charge(3, 0, 0, 600, 0);
        checks.noIndex("charge 1", desk, () -> desk.approve(1, 2));
        checks.noIndex("charge -1", desk, () -> desk.approve(-1, 2));
        checks.noIndex("person 4", desk, () -> desk.approve(charge, 4));
        checks.noIndex("person -1", desk, () -> desk.approve(charge, -1));
        checks.noState("open", desk, () -> desk.approve(charge, 2));
        desk.receipt(600, 0, 0);
        checks.noState("the next one's boss", desk, () -> desk.approve(charge, 1));
        checks.noState("its own person", desk, () -> desk.approve(charge, 3));
        desk.approve(charge, 2);
        checks.noState("who did already", desk, () -> desk.approve(charge, 2));
        desk.approve(charge, 1);
        checks.noState("approved", desk, () -> desk.approve(charge, 1));
        checks.noState("approved, and the boss above", desk, () -> desk.approve(charge, 0));
    }

    private static void standsIn() {
        ApprovalGrid desk = Desks.chain(5);
        int charge = Desks.matched(desk, 3, 600);
        desk.away(2, 1, 4);
        checks.same("the stand-in has to", desk.ofCharge(charge, 10), 4);
        checks.same("told of the stand-in", desk.ofPerson(4, 6), 1);
        checks.same("not of the one who is away", desk.ofPerson(2, 6), 0);
        checks.noState("who is away", desk, () -> desk.approve(charge, 2));
        Desks.days(desk, 2);
        checks.same("back again", desk.ofCharge(charge, 10), 2);
        desk.away(2, 2, 4);
        checks.same("the stand-in does", desk.approve(charge, 4), 1);
        checks.same("the next is of the boss, not of the stand-in's", desk.ofCharge(charge, 10), 1);
        desk.away(1, 2, 0);
        checks.same("the stand-in may be the boss above", desk.ofCharge(charge, 10), 0);
    }

    private static void nobodyStandsIn() {
        ApprovalGrid desk = Desks.chain(4);
        int charge = Desks.matched(desk, 3, 600);
        desk.away(2, 5, 3);
        checks.same("the stand-in is its person: left out", desk.ofCharge(charge, 9), 1);
        checks.same("the next one has to", desk.ofCharge(charge, 10), 1);
        desk.away(0, 5, 2);
        desk.away(1, 5, 0);
        checks.same("the stand-in is away: left out", desk.ofCharge(charge, 9), 2);
        checks.same("no steps left: approved", desk.ofCharge(charge, 4), 2);
        int another = Desks.matched(desk, 3, 400);
        checks.same("left out as it is matched", desk.ofCharge(another, 4), 2);
        int below = Desks.matched(desk, 2, 400);
        checks.same("away, and the stand-in, too", desk.ofCharge(below, 4), 2);
        desk.away(0, 5, 3);
        int again = Desks.matched(desk, 2, 700);
        checks.same("the stand-in of a stand-in does not count", desk.ofCharge(again, 9), 1);
        checks.same("but the boss above has one", desk.ofCharge(again, 10), 3);
    }

    private static void leftOutStaysLeftOut() {
        ApprovalGrid desk = Desks.chain(4);
        int charge = Desks.matched(desk, 3, 600);
        desk.away(2, 5, 3);
        desk.away(2, 5, 1);
        checks.same("left out though somebody could now", desk.ofCharge(charge, 9), 1);
        Desks.days(desk, 6);
        checks.same("left out though the boss is back", desk.ofCharge(charge, 10), 1);
        desk.refuse(charge, 1);
        checks.same("settled: from the step 0 on", desk.settle(charge, false), 1);
        checks.same("settled: from the step 0 on", desk.ofCharge(charge, 10), 2);
    }

    private static void refuses() {
        ApprovalGrid desk = Desks.chain(4);
        int first = Desks.matched(desk, 3, 600);
        int second = Desks.matched(desk, 3, 100);
        desk.approve(first, 2);
        checks.same("one disputed", desk.refuse(first, 1), 1);
        checks.same("two disputed", desk.refuse(second, 2), 2);
        checks.same("disputed", desk.ofCharge(first, 4), 4);
        checks.same("with its steps", desk.ofCharge(first, 9), 1);
        checks.same("with its receipt", desk.ofCharge(first, 5), 0);
        checks.same("told by many", desk.many(7), 2);
        Desks.days(desk, 20);
        checks.same("no day repays it", desk.ofCharge(first, 4), 4);
    }

    private static void refuseRefuses() {
        ApprovalGrid desk = Desks.chain(4);
        int charge = desk.charge(3, 0, 0, 600, 0);
        checks.noIndex("charge 1", desk, () -> desk.refuse(1, 2));
        checks.noIndex("charge -1", desk, () -> desk.refuse(-1, 2));
        checks.noIndex("person 4", desk, () -> desk.refuse(charge, 4));
        checks.noIndex("person -1", desk, () -> desk.refuse(charge, -1));
        checks.noState("open", desk, () -> desk.refuse(charge, 2));
        desk.receipt(600, 0, 0);
        checks.noState("somebody else", desk, () -> desk.refuse(charge, 1));
        desk.refuse(charge, 2);
        checks.noState("disputed", desk, () -> desk.refuse(charge, 2));
    }

    private static void settlesMatched() {
        ApprovalGrid desk = Desks.chain(4);
        int charge = Desks.matched(desk, 3, 600);
        desk.approve(charge, 2);
        desk.refuse(charge, 1);
        checks.same("matched", desk.settle(charge, false), 1);
        checks.same("from the step 0 on", desk.ofCharge(charge, 9), 0);
        checks.same("by its boss", desk.ofCharge(charge, 10), 2);
        checks.same("with its receipt", desk.ofReceipt(0), charge);
        checks.same("without a point", desk.ofPerson(3, 2), 1);
        desk.refuse(charge, 2);
        desk.away(2, 3, 3);
        desk.away(1, 3, 3);
        checks.same("nobody is there: approved", desk.settle(charge, false), 2);
        checks.same("both left out", desk.ofCharge(charge, 9), 2);
    }

    private static void settlesRepaid() {
        ApprovalGrid desk = Desks.chain(4);
        int charge = Desks.matched(desk, 3, 600);
        desk.approve(charge, 2);
        desk.refuse(charge, 1);
        checks.same("repaid", desk.settle(charge, true), 3);
        checks.same("keeps its receipt", desk.ofCharge(charge, 5), 0);
        checks.same("of it", desk.ofReceipt(0), charge);
        checks.same("keeps its steps", desk.ofCharge(charge, 9), 1);
        checks.same("trust stays", desk.ofPerson(3, 1), 5);
        checks.same("repaid", desk.many(6), 1);
    }

    private static void settleRefuses() {
        ApprovalGrid desk = Desks.chain(2);
        int charge = desk.charge(1, 0, 0, 100, 0);
        checks.noIndex("charge 1", desk, () -> desk.settle(1, true));
        checks.noIndex("charge -1", desk, () -> desk.settle(-1, false));
        checks.noState("open", desk, () -> desk.settle(charge, true));
        desk.receipt(100, 0, 0);
        checks.noState("matched", desk, () -> desk.settle(charge, false));
        desk.refuse(charge, 0);
        desk.settle(charge, true);
        checks.noState("repaid", desk, () -> desk.settle(charge, false));
        int approved = Desks.matched(desk, 1, 50);
        desk.approve(approved, 0);
        checks.noState("approved", desk, () -> desk.settle(approved, true));
    }
}
