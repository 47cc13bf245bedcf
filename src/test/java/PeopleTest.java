/** Promises 1 to 7: a new object, and people. */
public final class PeopleTest {
    private static final Checks checks = new Checks();

    public static void main(String[] args) {
        newDesk();
        addsPeople();
        setsLimits();
        isAway();
        awayRefuses();
        addsTrips();
        tripRefuses();
        tellsOfPeople();
        spendsByLimit();
        limitCountsTenDays();
        spendsOnTrips();
        checks.end();
    }

    private static void newDesk() {
        ApprovalGrid desk = new ApprovalGrid();
        for (int what = 0; what <= 12; what++) {
            checks.same("many of a new desk", desk.many(what), 0);
        }
        for (int kind = 0; kind < 4; kind++) {
            checks.same("carry at first", desk.carry(kind, 7), 0);
            for (int period = 0; period < 4; period++) {
                checks.same("plan at first", desk.plan(kind, period, 7), 0);
            }
            for (int land = 0; land < 3; land++) {
                checks.same("rate at first", desk.rate(land, kind, 7), 0);
            }
        }
        checks.noIndex("nobody there", desk, () -> desk.ofPerson(0, 0));
    }

    private static void addsPeople() {
        ApprovalGrid desk = new ApprovalGrid();
        checks.noIndex("boss 0 of the first", desk, () -> desk.person(0));
        checks.noIndex("boss -2", desk, () -> desk.person(-2));
        checks.noIndex("boss of the least number", desk, () -> desk.person(Integer.MIN_VALUE));
        checks.same("first", desk.person(-1), 0);
        checks.noIndex("boss itself", desk, () -> desk.person(1));
        checks.same("second", desk.person(0), 1);
        checks.same("boss of the second", desk.ofPerson(1, 0), 0);
        checks.same("boss of the first", desk.ofPerson(0, 0), -1);
        for (int number = 2; number < 8; number++) {
            checks.same("next", desk.person(-1), number);
        }
        checks.noState("ninth", desk, () -> desk.person(-1));
        checks.noState("ninth with a boss", desk, () -> desk.person(7));
        checks.noIndex("ninth with a wrong boss", desk, () -> desk.person(8));
        checks.same("people", desk.many(0), 8);
        for (int person = 0; person < 8; person++) {
            checks.same("trust at first", desk.ofPerson(person, 1), 5);
            checks.same("points at first", desk.ofPerson(person, 2), 0);
            checks.same("away at first", desk.ofPerson(person, 3), 0);
            checks.same("limit at first", desk.limit(person, 3, 1), 0);
        }
    }

    private static void setsLimits() {
        ApprovalGrid desk = new ApprovalGrid();
        desk.person(-1);
        desk.person(0);
        checks.same("limit", desk.limit(0, 2, 9999), 0);
        checks.same("limit of another kind", desk.limit(0, 1, 5), 0);
        checks.same("limit of another person", desk.limit(1, 2, 6), 0);
        checks.same("limit again", desk.limit(0, 2, 0), 9999);
        checks.same("limit 0 before", desk.limit(0, 2, 8), 0);
        checks.noIndex("person 2", desk, () -> desk.limit(2, 0, 1));
        checks.noIndex("person -1", desk, () -> desk.limit(-1, 0, 1));
        checks.noIndex("kind 4", desk, () -> desk.limit(0, 4, 1));
        checks.noIndex("kind -1, wrong limit", desk, () -> desk.limit(0, -1, -1));
        checks.noArgument("limit -1", desk, () -> desk.limit(0, 2, -1));
        checks.noArgument("limit 10000", desk, () -> desk.limit(0, 2, 10000));
        checks.same("limit as it was", desk.limit(0, 2, 1), 8);
        checks.same("limit of the other kind as it was", desk.limit(0, 1, 1), 5);
        checks.same("limit of the other person as it was", desk.limit(1, 2, 1), 6);
    }

    private static void isAway() {
        ApprovalGrid desk = Desks.chain(3);
        checks.same("not away before", desk.away(0, 1, 1), false);
        checks.same("away", desk.ofPerson(0, 3), 1);
        checks.same("another is not", desk.ofPerson(1, 3), 0);
        checks.same("away before", desk.away(0, 1, 2), true);
        desk.day();
        checks.same("away on the last day", desk.ofPerson(0, 3), 1);
        desk.day();
        checks.same("not away behind it", desk.ofPerson(0, 3), 0);
        checks.same("not away before, again", desk.away(0, 119, 1), false);
        checks.same("away till the end", desk.ofPerson(0, 3), 1);
        checks.same("away, and no more", desk.away(0, 1, 1), true);
        checks.same("a day below today", desk.ofPerson(0, 3), 0);
        checks.same("not away before, at the end", desk.away(0, 2, 1), false);
        checks.same("away today", desk.ofPerson(0, 3), 1);
    }

    private static void awayRefuses() {
        ApprovalGrid desk = Desks.chain(3);
        desk.away(1, 0, 0);
        checks.noIndex("person 3", desk, () -> desk.away(3, 1, 0));
        checks.noIndex("person -1", desk, () -> desk.away(-1, 1, 0));
        checks.noIndex("stand-in 3", desk, () -> desk.away(2, 1, 3));
        checks.noIndex("stand-in NONE", desk, () -> desk.away(2, 1, -1));
        checks.noIndex("nobody, by itself, on no day", desk, () -> desk.away(3, 120, 3));
        checks.noIndex("stand-in 3 on no day", desk, () -> desk.away(2, 120, 3));
        checks.noArgument("day -1", desk, () -> desk.away(2, -1, 0));
        checks.noArgument("day 120", desk, () -> desk.away(2, 120, 0));
        checks.noArgument("by itself", desk, () -> desk.away(2, 1, 2));
        checks.same("still not away", desk.ofPerson(2, 3), 0);
        int charge = Desks.matched(desk, 2, 10);
        checks.same("the stand-in as it was", desk.ofCharge(charge, 10), 0);
    }

    private static void addsTrips() {
        ApprovalGrid desk = Desks.chain(2);
        checks.same("trip", desk.trip(1, 2, 0, 0, 9999), 0);
        checks.same("trip", desk.trip(0, 0, 119, 119, 0), 1);
        for (int number = 2; number < 8; number++) {
            checks.same("trip", desk.trip(1, 1, 0, 119, number), number);
        }
        checks.same("trips", desk.many(1), 8);
        checks.noState("ninth trip", desk, () -> desk.trip(1, 0, 0, 119, 1));
        checks.noIndex("ninth trip of nobody", desk, () -> desk.trip(2, 0, 0, 119, 1));
        checks.noArgument("ninth trip of no end", desk, () -> desk.trip(1, 0, 0, 120, 1));
    }

    private static void tripRefuses() {
        ApprovalGrid desk = Desks.chain(1);
        checks.noIndex("person 1", desk, () -> desk.trip(1, 0, 0, 0, 0));
        checks.noIndex("person -1", desk, () -> desk.trip(-1, 0, 0, 0, 0));
        checks.noIndex("land 3", desk, () -> desk.trip(0, 3, 0, 0, 0));
        checks.noIndex("land -1", desk, () -> desk.trip(0, -1, 0, 0, 0));
        checks.noIndex("land 3, wrong days", desk, () -> desk.trip(0, 3, 5, 4, -1));
        checks.noArgument("from -1", desk, () -> desk.trip(0, 0, -1, 0, 0));
        checks.noArgument("from 120", desk, () -> desk.trip(0, 0, 120, 120, 0));
        checks.noArgument("to 120", desk, () -> desk.trip(0, 0, 0, 120, 0));
        checks.noArgument("to -1", desk, () -> desk.trip(0, 0, 0, -1, 0));
        checks.noArgument("to below from", desk, () -> desk.trip(0, 0, 5, 4, 0));
        checks.noArgument("extra -1", desk, () -> desk.trip(0, 0, 0, 0, -1));
        checks.noArgument("extra 10000", desk, () -> desk.trip(0, 0, 0, 0, 10000));
        checks.same("trips", desk.many(1), 0);
    }

    private static void tellsOfPeople() {
        ApprovalGrid desk = Desks.chain(3);
        desk.charge(2, 0, 0, 100, 0);
        desk.charge(2, 0, 0, 200, 0);
        desk.charge(1, 0, 0, 300, 0);
        checks.same("open of 2", desk.ofPerson(2, 4), 2);
        checks.same("open of 1", desk.ofPerson(1, 4), 1);
        checks.same("open of 0", desk.ofPerson(0, 4), 0);
        desk.receipt(100, 0, 0);
        checks.same("open of 2 with a receipt", desk.ofPerson(2, 4), 1);
        checks.same("points of 2", desk.ofPerson(2, 2), 1);
        checks.same("1 has to approve", desk.ofPerson(1, 6), 1);
        checks.same("0 has not", desk.ofPerson(0, 6), 0);
        desk.receipt(300, 0, 0);
        checks.same("0 has to approve", desk.ofPerson(0, 6), 1);
        desk.refuse(2, 0);
        checks.same("disputed is not to approve", desk.ofPerson(0, 6), 0);
        desk.settle(2, true);
        checks.same("repaid of 1", desk.ofPerson(1, 5), 300);
        checks.same("repaid of 2", desk.ofPerson(2, 5), 0);
        Desks.days(desk, 15);
        checks.same("repaid of 2 in the end", desk.ofPerson(2, 5), 200);
        desk.refuse(0, 1);
        desk.settle(0, true);
        checks.same("repaid and settled", desk.ofPerson(2, 5), 300);
        checks.same("trust of 2 in the end", desk.ofPerson(2, 1), 3);
        checks.same("open of 2 in the end", desk.ofPerson(2, 4), 0);
        checks.noIndex("person 3", desk, () -> desk.ofPerson(3, 0));
        checks.noIndex("person -1, what 7", desk, () -> desk.ofPerson(-1, 7));
        checks.noArgument("what 7", desk, () -> desk.ofPerson(0, 7));
        checks.noArgument("what -1", desk, () -> desk.ofPerson(0, -1));
    }

    private static void spendsByLimit() {
        ApprovalGrid desk = Desks.chain(2);
        desk.limit(1, 0, 401);
        desk.limit(1, 1, 300);
        checks.same("trust 5: the limit", desk.maySpend(1, 0, 0), 401);
        desk.charge(1, 0, 2, 300, 0);
        checks.same("less the charge", desk.maySpend(1, 0, 0), 101);
        checks.same("of another kind", desk.maySpend(1, 1, 0), 300);
        checks.same("of another person", desk.maySpend(0, 0, 0), 9999);
        desk.limit(1, 0, 299);
        checks.same("below 0", desk.maySpend(1, 0, 0), -1);
        desk.limit(1, 0, 401);
        Desks.days(desk, 8);
        checks.same("trust 4: cut", desk.maySpend(1, 0, 0), 401 * 9 / 10 - 300);
        checks.noIndex("person 2", desk, () -> desk.maySpend(2, 0, 0));
        checks.noIndex("person -1", desk, () -> desk.maySpend(-1, 0, 0));
        checks.noIndex("kind 4", desk, () -> desk.maySpend(0, 4, 0));
        checks.noIndex("kind -1", desk, () -> desk.maySpend(0, -1, 0));
        checks.noIndex("land 3", desk, () -> desk.maySpend(0, 0, 3));
        checks.noIndex("land -1", desk, () -> desk.maySpend(0, 0, -1));
    }

    private static void limitCountsTenDays() {
        ApprovalGrid desk = Desks.chain(2);
        desk.limit(1, 0, 1000);
        int charge = Desks.matched(desk, 1, 100);
        checks.same("state", desk.ofCharge(charge, 4), 1);
        Desks.days(desk, 9);
        checks.same("9 days behind it", desk.maySpend(1, 0, 0), 900);
        desk.day();
        checks.same("10 days behind it", desk.maySpend(1, 0, 0), 1000);
        int disputed = Desks.matched(desk, 1, 50);
        desk.refuse(disputed, 0);
        checks.same("disputed counts", desk.maySpend(1, 0, 0), 950);
        desk.settle(disputed, true);
        checks.same("repaid does not", desk.maySpend(1, 0, 0), 1000);
    }

    private static void spendsOnTrips() {
        ApprovalGrid desk = Desks.chain(3);
        desk.limit(2, 0, 1000);
        desk.trip(2, 1, 1, 2, 500);
        desk.trip(2, 1, 2, 3, 700);
        desk.trip(1, 1, 0, 9, 5);
        checks.same("ahead of the trip", desk.maySpend(2, 0, 1), 1000);
        desk.day();
        checks.same("first day", desk.maySpend(2, 0, 1), 500);
        checks.same("in another land", desk.maySpend(2, 0, 0), 1000);
        desk.charge(2, 3, 1, 200, 0);
        checks.same("less what the trip took, of any kind", desk.maySpend(2, 0, 1), 300);
        checks.same("not off the limit", desk.maySpend(2, 3, 0), 9999);
        desk.charge(2, 0, 0, 100, 1);
        checks.same("off the limit, not the trip", desk.maySpend(2, 0, 1), 300);
        checks.same("off the limit", desk.maySpend(2, 0, 0), 900);
        desk.day();
        checks.same("the first of two trips", desk.maySpend(2, 0, 1), 300);
        desk.day();
        checks.same("the second trip alone", desk.maySpend(2, 0, 1), 700);
        desk.day();
        checks.same("behind the trips", desk.maySpend(2, 0, 1), 900);
        checks.same("another's trip", desk.maySpend(1, 0, 1), 5);
        desk.trip(2, 1, 0, 119, 400);
        checks.same("a third trip has its own", desk.maySpend(2, 0, 1), 400);
        int charge = desk.charge(2, 0, 1, 150, 2);
        desk.receipt(150, 4, 2);
        desk.refuse(charge, 1);
        checks.same("disputed counts", desk.maySpend(2, 0, 1), 250);
        desk.settle(charge, true);
        checks.same("repaid does not", desk.maySpend(2, 0, 1), 400);
    }
}
