/** Promises 12, 13, 14, 18, 19 and 20: charges and receipts, and how they are matched. */
public final class ChargesTest {
    private static final Checks checks = new Checks();

    public static void main(String[] args) {
        chargeComes();
        chargeRefuses();
        chargeNeedsMoney();
        chargesAreThirty();
        receiptComes();
        receiptRefuses();
        receiptsAreThirty();
        goTogetherAtTheEdges();
        bestPairIsMatched();
        smallestOfEqualPairs();
        waitingReceiptIsMatched();
        pointsAndTrust();
        splits();
        splitMatchesTwo();
        splitWhileAway();
        splitKeepsPoints();
        splitRefuses();
        tellsOfCharges();
        scores();
        checks.end();
    }

    private static void chargeComes() {
        ApprovalGrid desk = Desks.chain(2);
        desk.rate(2, 3, 30);
        desk.trip(1, 1, 4, 4, 50);
        Desks.days(desk, 4);
        checks.same("charge", desk.charge(1, 3, 2, 9999, 9), 0);
        int[] due = {1, 3, 9999, 4, 0, -1, -1, 9999 * 30 / 130, 9999, 0, -1, 0};
        for (int what = 0; what < due.length; what++) {
            checks.same("of the charge " + what, desk.ofCharge(0, what), due[what]);
        }
        checks.same("charge of a trip", desk.charge(1, 0, 1, 50, 0), 1);
        checks.same("its trip", desk.ofCharge(1, 6), 0);
        checks.same("the same land, another's", desk.charge(0, 0, 1, 60, 0), 2);
        checks.same("of no trip", desk.ofCharge(2, 6), -1);
    }

    private static void chargeRefuses() {
        ApprovalGrid desk = Desks.chain(1);
        desk.limit(0, 1, 0);
        checks.noIndex("person 1", desk, () -> desk.charge(1, 0, 0, 1, 0));
        checks.noIndex("person -1", desk, () -> desk.charge(-1, 0, 0, 1, 0));
        checks.noIndex("kind 4", desk, () -> desk.charge(0, 4, 0, 1, 0));
        checks.noIndex("kind -1", desk, () -> desk.charge(0, -1, 0, 1, 0));
        checks.noIndex("land 3", desk, () -> desk.charge(0, 0, 3, 1, 0));
        checks.noIndex("land -1, wrong amount", desk, () -> desk.charge(0, 0, -1, 0, 0));
        checks.noArgument("amount 0", desk, () -> desk.charge(0, 0, 0, 0, 0));
        checks.noArgument("amount 10000", desk, () -> desk.charge(0, 0, 0, 10000, 0));
        checks.noArgument("text -1", desk, () -> desk.charge(0, 0, 0, 1, -1));
        checks.noArgument("text 10", desk, () -> desk.charge(0, 0, 0, 1, 10));
        checks.noArgument("text 10, and too much", desk, () -> desk.charge(0, 1, 0, 1, 10));
        checks.same("charges", desk.many(2), 0);
    }

    private static void chargeNeedsMoney() {
        ApprovalGrid desk = Desks.chain(2);
        desk.limit(1, 0, 100);
        checks.noState("more than one may spend", desk, () -> desk.charge(1, 0, 0, 101, 0));
        checks.same("all one may spend", desk.charge(1, 0, 0, 100, 0), 0);
        checks.noState("1 more", desk, () -> desk.charge(1, 0, 0, 1, 0));
        desk.plan(1, 0, 50);
        checks.noState("more than is left", desk, () -> desk.charge(1, 1, 0, 51, 0));
        checks.same("all that is left", desk.charge(1, 1, 0, 50, 0), 1);
        desk.plan(2, 0, 0);
        Desks.days(desk, 29);
        checks.noState("nothing left in period 0", desk, () -> desk.charge(1, 2, 0, 1, 0));
        desk.day();
        checks.same("left in period 1", desk.charge(1, 2, 0, 1, 0), 2);
        desk.trip(1, 1, 30, 30, 20);
        checks.noState("more than the trip has", desk, () -> desk.charge(1, 0, 1, 21, 0));
        checks.same("all the trip has", desk.charge(1, 0, 1, 20, 0), 3);
        desk.rate(0, 3, 30);
        desk.plan(3, 1, 1000);
        desk.charge(1, 3, 0, 500, 0);
        checks.same("left with receipts", desk.leftWith(3, 1), 615);
        checks.noState("more than is left without them", desk, () -> desk.charge(1, 3, 0, 501, 0));
    }

    private static void chargesAreThirty() {
        ApprovalGrid desk = Desks.chain(1);
        for (int number = 0; number < 30; number++) {
            checks.same("charge", desk.charge(0, 0, 0, 1, 0), number);
        }
        checks.noState("one more", desk, () -> desk.charge(0, 0, 0, 1, 0));
        checks.noIndex("one more of kind 4", desk, () -> desk.charge(0, 4, 0, 1, 0));
        checks.noArgument("one more of amount 0", desk, () -> desk.charge(0, 0, 0, 0, 0));
    }

    private static void receiptComes() {
        ApprovalGrid desk = Desks.chain(2);
        checks.same("nothing to match", desk.receipt(9999, 119, 9), -1);
        checks.same("free", desk.ofReceipt(0), -1);
        desk.charge(1, 0, 0, 100, 0);
        checks.same("matched", desk.receipt(100, 0, 0), 0);
        checks.same("of the charge", desk.ofReceipt(1), 0);
        checks.same("its receipt", desk.ofCharge(0, 5), 1);
        checks.same("its state", desk.ofCharge(0, 4), 1);
        checks.same("a matched charge takes no other", desk.receipt(100, 0, 0), -1);
        checks.noIndex("receipt 3", desk, () -> desk.ofReceipt(3));
        checks.noIndex("receipt -1", desk, () -> desk.ofReceipt(-1));
    }

    private static void receiptRefuses() {
        ApprovalGrid desk = Desks.chain(1);
        checks.noArgument("amount 0", desk, () -> desk.receipt(0, 0, 0));
        checks.noArgument("amount 10000", desk, () -> desk.receipt(10000, 0, 0));
        checks.noArgument("day -1", desk, () -> desk.receipt(1, -1, 0));
        checks.noArgument("day 120", desk, () -> desk.receipt(1, 120, 0));
        checks.noArgument("text -1", desk, () -> desk.receipt(1, 0, -1));
        checks.noArgument("text 10", desk, () -> desk.receipt(1, 0, 10));
        checks.same("receipts", desk.many(8), 0);
    }

    private static void receiptsAreThirty() {
        ApprovalGrid desk = Desks.chain(2);
        for (int number = 0; number < 30; number++) {
            checks.same("receipt", desk.receipt(5000, 119, 0), -1);
        }
        desk.charge(1, 0, 0, 10, 0);
        checks.noState("one more", desk, () -> desk.receipt(10, 0, 0));
        checks.noArgument("one more of day 120", desk, () -> desk.receipt(10, 120, 0));
        checks.same("would be matched all the same", desk.wouldMatch(10, 0, 0), 0);
    }

    private static void goTogetherAtTheEdges() {
        checks.same("10 more", matchOf(100, 110, 5), 0);
        checks.same("11 more", matchOf(100, 111, 5), -1);
        checks.same("10 less", matchOf(100, 90, 5), 0);
        checks.same("11 less", matchOf(100, 89, 5), -1);
        checks.same("3 days later", matchOf(100, 100, 8), 0);
        checks.same("4 days later", matchOf(100, 100, 9), -1);
        checks.same("3 days earlier", matchOf(100, 100, 2), 0);
        checks.same("4 days earlier", matchOf(100, 100, 1), -1);
        checks.same("10 more and 3 days later", matchOf(100, 110, 8), 0);
    }

    /** With which charge a receipt is matched, if a charge came on day 5. */
    private static int matchOf(int charged, int amount, int day) {
        ApprovalGrid desk = Desks.chain(2);
        Desks.days(desk, 5);
        desk.charge(1, 0, 0, charged, 0);
        return desk.receipt(amount, day, 1);
    }

    private static void bestPairIsMatched() {
        ApprovalGrid desk = Desks.chain(2);
        desk.charge(1, 0, 0, 100, 2);
        desk.charge(1, 0, 0, 110, 1);
        checks.same("20 less, 20 more: equal, the smaller charge", desk.receipt(100, 0, 1), 0);
        ApprovalGrid texts = Desks.chain(2);
        texts.charge(1, 0, 0, 100, 2);
        texts.charge(1, 0, 0, 109, 1);
        checks.same("18 less, 20 more: better", texts.receipt(100, 0, 1), 1);
        ApprovalGrid amounts = Desks.chain(2);
        amounts.charge(1, 0, 0, 103, 0);
        amounts.day();
        amounts.charge(1, 0, 0, 100, 0);
        checks.same("5 for a day is less than 6 for 3", amounts.receipt(100, 0, 0), 1);
        ApprovalGrid days = Desks.chain(2);
        days.charge(1, 0, 0, 102, 0);
        days.day();
        days.charge(1, 0, 0, 100, 0);
        checks.same("4 for 2 is less than 5 for a day", days.receipt(100, 0, 0), 0);
    }

    private static void smallestOfEqualPairs() {
        ApprovalGrid desk = Desks.chain(2);
        desk.charge(1, 0, 0, 101, 0);
        desk.charge(1, 0, 0, 99, 0);
        checks.same("the smaller charge", desk.receipt(100, 0, 0), 0);
        ApprovalGrid receipts = Desks.chain(2);
        receipts.receipt(101, 0, 0);
        receipts.receipt(99, 0, 0);
        receipts.charge(1, 0, 0, 100, 0);
        checks.same("the smaller receipt", receipts.ofCharge(0, 5), 0);
        checks.same("the other is free", receipts.ofReceipt(1), -1);
    }

    private static void waitingReceiptIsMatched() {
        ApprovalGrid desk = Desks.chain(2);
        desk.receipt(100, 0, 0);
        desk.receipt(104, 0, 0);
        desk.charge(1, 0, 0, 103, 0);
        checks.same("the better receipt", desk.ofCharge(0, 5), 1);
        checks.same("matched as it comes", desk.ofCharge(0, 4), 1);
        checks.same("a point", desk.ofPerson(1, 2), 1);
        desk.charge(0, 0, 0, 100, 0);
        checks.same("without a boss: approved as it comes", desk.ofCharge(1, 4), 2);
    }

    private static void pointsAndTrust() {
        ApprovalGrid desk = Desks.chain(2);
        desk.charge(1, 0, 0, 100, 0);
        desk.charge(1, 0, 0, 200, 0);
        Desks.days(desk, 7);
        desk.receipt(100, 0, 0);
        checks.same("7 days ago: a point", desk.ofPerson(1, 2), 1);
        desk.day();
        desk.receipt(200, 0, 0);
        checks.same("8 days ago: none", desk.ofPerson(1, 2), 1);
        checks.same("matched all the same", desk.ofCharge(1, 4), 1);
        checks.same("but missing", desk.ofPerson(1, 1), 4);
        Desks.matched(desk, 1, 300);
        checks.same("2 points", desk.ofPerson(1, 2), 2);
        Desks.matched(desk, 1, 400);
        checks.same("3 points are none", desk.ofPerson(1, 2), 0);
        checks.same("but trust", desk.ofPerson(1, 1), 5);
        checks.same("not of the boss", desk.ofPerson(0, 1), 5);
        for (int i = 0; i < 15; i++) {
            Desks.matched(desk, 1, 20);
        }
        checks.same("trust 10", desk.ofPerson(1, 1), 10);
        for (int i = 0; i < 2; i++) {
            Desks.matched(desk, 1, 20);
        }
        checks.same("2 points with trust 10", desk.ofPerson(1, 2), 2);
        Desks.matched(desk, 1, 20);
        checks.same("10 at most", desk.ofPerson(1, 1), 10);
        checks.same("points are 0 then", desk.ofPerson(1, 2), 0);
    }

    private static void splits() {
        ApprovalGrid desk = Desks.chain(4);
        int charge = Desks.matched(desk, 3, 600);
        desk.approve(charge, 2);
        checks.same("a step", desk.ofCharge(charge, 9), 1);
        checks.same("open again", desk.split(charge), 0);
        checks.same("no steps", desk.ofCharge(charge, 9), 0);
        checks.same("no receipt", desk.ofCharge(charge, 5), -1);
        checks.same("a free receipt", desk.ofReceipt(0), -1);
        checks.same("nobody has to approve", desk.ofCharge(charge, 10), -1);
        checks.same("its score stays", desk.score(charge, 0), 60);
        desk.charge(3, 0, 0, 5000, 0);
        checks.same("they never go together again", desk.ofCharge(charge, 4), 0);
        checks.same("another like it does", desk.receipt(600, 0, 0), charge);
        checks.same("split from that, too", desk.split(charge), 0);
        checks.same("from both", desk.many(9), 2);
        checks.same("another charge for a split receipt", desk.charge(3, 0, 0, 600, 0), 2);
        checks.same("matched", desk.ofCharge(2, 5), 0);
    }

    private static void splitMatchesTwo() {
        ApprovalGrid desk = Desks.chain(2);
        desk.charge(1, 0, 0, 100, 0);
        desk.receipt(100, 0, 0);
        desk.charge(1, 0, 0, 108, 0);
        desk.receipt(92, 0, 0);
        checks.same("waiting", desk.many(3) + desk.many(9), 2);
        checks.same("matched anew", desk.split(0), 1);
        checks.same("with the other", desk.ofCharge(0, 5), 1);
        checks.same("and its receipt, too", desk.ofReceipt(0), 1);
        checks.same("with points as ever", desk.ofPerson(1, 1), 6);
        checks.same("with points as ever", desk.ofPerson(1, 2), 0);
        ApprovalGrid other = Desks.chain(2);
        other.charge(0, 0, 0, 101, 0);
        other.charge(1, 0, 0, 100, 0);
        checks.same("the better charge", other.receipt(100, 0, 0), 1);
        checks.same("open by the split", other.split(1), 0);
        checks.same("the receipt goes to the other", other.ofReceipt(0), 0);
        checks.same("which is approved, without a boss", other.ofCharge(0, 4), 2);
    }

    private static void splitWhileAway() {
        ApprovalGrid desk = Desks.chain(3);
        int charge = Desks.matched(desk, 2, 600);
        desk.receipt(600, 0, 0);
        desk.approve(charge, 1);
        desk.away(1, 9, 2);
        checks.same("matched with the other receipt", desk.split(charge), 1);
        checks.same("step 0 is left out now", desk.ofCharge(charge, 9), 1);
        checks.same("step 1 is of the boss above", desk.ofCharge(charge, 10), 0);
        desk.receipt(600, 0, 0);
        desk.away(1, 0, 0);
        checks.same("once more", desk.split(charge), 1);
        checks.same("not left out any more", desk.ofCharge(charge, 9), 0);
    }

    private static void splitKeepsPoints() {
        ApprovalGrid desk = Desks.chain(2);
        int charge = Desks.matched(desk, 1, 100);
        desk.split(charge);
        checks.same("points stay", desk.ofPerson(1, 2), 1);
        Desks.days(desk, 7);
        checks.same("a receipt of day 0", desk.receipt(100, 0, 0), charge);
        checks.same("a point by it", desk.ofPerson(1, 2), 2);
        desk.split(charge);
        desk.day();
        checks.same("missing", desk.ofCharge(charge, 11), 1);
        desk.receipt(100, 0, 0);
        checks.same("no point by that", desk.ofPerson(1, 2), 2);
    }

    private static void splitRefuses() {
        ApprovalGrid desk = Desks.chain(2);
        desk.charge(1, 0, 0, 100, 0);
        checks.noIndex("charge 1", desk, () -> desk.split(1));
        checks.noIndex("charge -1", desk, () -> desk.split(-1));
        checks.noState("open", desk, () -> desk.split(0));
        desk.receipt(100, 0, 0);
        desk.refuse(0, 0);
        checks.noState("disputed", desk, () -> desk.split(0));
        desk.settle(0, false);
        desk.approve(0, 0);
        checks.noState("approved", desk, () -> desk.split(0));
        int repaid = Desks.matched(desk, 1, 200);
        desk.refuse(repaid, 0);
        desk.settle(repaid, true);
        checks.noState("repaid", desk, () -> desk.split(repaid));
    }

    private static void tellsOfCharges() {
        ApprovalGrid desk = Desks.chain(3);
        desk.rate(0, 0, 10);
        int charge = Desks.matched(desk, 2, 1100);
        checks.same("tax", desk.ofCharge(charge, 7), 100);
        checks.same("cost of a matched one", desk.ofCharge(charge, 8), 1000);
        checks.same("who has to approve", desk.ofCharge(charge, 10), 1);
        desk.refuse(charge, 1);
        checks.same("cost of a disputed one", desk.ofCharge(charge, 8), 1100);
        checks.same("nobody has to approve it", desk.ofCharge(charge, 10), -1);
        checks.same("tax whatever the state is", desk.ofCharge(charge, 7), 100);
        desk.settle(charge, true);
        checks.same("cost of a repaid one", desk.ofCharge(charge, 8), 0);
        checks.same("tax whatever the state is", desk.ofCharge(charge, 7), 100);
        desk.rate(0, 0, 0);
        checks.same("no tax with rate 0", desk.ofCharge(charge, 7), 0);
        checks.noIndex("charge 1", desk, () -> desk.ofCharge(1, 0));
        checks.noIndex("charge -1, what 12", desk, () -> desk.ofCharge(-1, 12));
        checks.noArgument("what 12", desk, () -> desk.ofCharge(0, 12));
        checks.noArgument("what -1", desk, () -> desk.ofCharge(0, -1));
    }

    private static void scores() {
        ApprovalGrid desk = Desks.chain(2);
        Desks.days(desk, 5);
        desk.charge(1, 0, 0, 100, 4);
        int[][] dues = {
            {100, 5, 4, 60}, {100, 5, 3, 40}, {110, 5, 4, 40}, {90, 5, 4, 40}, {111, 5, 4, -1}, {89, 5, 4, -1},
            {100, 8, 4, 45}, {100, 2, 4, 45}, {100, 9, 4, -1}, {100, 1, 4, -1}, {110, 8, 5, 5}, {97, 4, 4, 49},
        };
        for (int i = 0; i < dues.length; i++) {
            desk.receipt(dues[i][0], dues[i][1], dues[i][2]);
            checks.same("score with receipt " + i, desk.score(0, i), dues[i][3]);
        }
        checks.noIndex("charge 1", desk, () -> desk.score(1, 0));
        checks.noIndex("charge -1", desk, () -> desk.score(-1, 0));
        checks.noIndex("receipt 12", desk, () -> desk.score(0, 12));
        checks.noIndex("receipt -1", desk, () -> desk.score(0, -1));
    }
}
