/** Desks that the tests begin with. */
final class Desks {
    static final int NONE = -1;

    private Desks() {
    }

    /** People 0 to count - 1, each below the one before, each with the limit 9999 of each kind; every plan is 99999. */
    static ApprovalGrid chain(int count) {
        ApprovalGrid desk = new ApprovalGrid();
        for (int person = 0; person < count; person++) {
            desk.person(person - 1);
            for (int kind = 0; kind < 4; kind++) {
                desk.limit(person, kind, 9999);
            }
        }
        for (int kind = 0; kind < 4; kind++) {
            for (int period = 0; period < 4; period++) {
                desk.plan(kind, period, 99999);
            }
        }
        return desk;
    }

    static void days(ApprovalGrid desk, int count) {
        for (int i = 0; i < count; i++) {
            desk.day();
        }
    }

    /** A charge and its receipt, alike and both of today. */
    static int matched(ApprovalGrid desk, int person, int amount) {
        int charge = desk.charge(person, 0, 0, amount, 0);
        desk.receipt(amount, desk.many(10), 0);
        return charge;
    }
}
