/** Promises 24 to 27: what would be, where nothing is changed, and the checksum. */
public final class WouldBeTest {
    private static final Checks checks = new Checks();

    public static void main(String[] args) {
        wouldMatch();
        wouldMatchRefuses();
        trustBehind();
        trustBehindOfOldOnes();
        trustBehindTheLastDay();
        trustBehindRefuses();
        leftWith();
        leftWithRefuses();
        digestOfMany();
        checks.end();
    }

    private static void wouldMatch() {
        ApprovalGrid desk = Desks.chain(2);
        Desks.days(desk, 5);
        desk.charge(1, 0, 0, 100, 1);
        desk.charge(1, 0, 0, 100, 2);
        desk.charge(1, 0, 0, 120, 3);
        long before = desk.digest();
        checks.same("the smallest of equals", desk.wouldMatch(100, 5, 9), 0);
        checks.same("the same text", desk.wouldMatch(100, 5, 2), 1);
        checks.same("10 less", desk.wouldMatch(110, 5, 3), 2);
        checks.same("11 more", desk.wouldMatch(131, 5, 3), -1);
        checks.same("3 days", desk.wouldMatch(100, 2, 1), 0);
        checks.same("4 days", desk.wouldMatch(100, 1, 1), -1);
        checks.same("nothing is changed", desk.digest(), before);
        checks.same("as with the receipt", desk.receipt(100, 5, 2), 1);
        checks.same("a matched charge is out", desk.wouldMatch(100, 5, 2), 0);
        desk.split(1);
        checks.same("a new receipt was not split from it", desk.wouldMatch(100, 5, 2), 1);
    }

    private static void wouldMatchRefuses() {
        ApprovalGrid desk = Desks.chain(1);
        checks.noArgument("amount 0", desk, () -> desk.wouldMatch(0, 0, 0));
        checks.noArgument("amount 10000", desk, () -> desk.wouldMatch(10000, 0, 0));
        checks.noArgument("day -1", desk, () -> desk.wouldMatch(1, -1, 0));
        checks.noArgument("day 120", desk, () -> desk.wouldMatch(1, 120, 0));
        checks.noArgument("text -1", desk, () -> desk.wouldMatch(1, 0, -1));
        checks.noArgument("text 10", desk, () -> desk.wouldMatch(1, 0, 10));
        checks.same("none", desk.wouldMatch(9999, 119, 9), -1);
    }

    private static void trustBehind() {
        for (int day = 0; day <= 20; day++) {
            ApprovalGrid desk = threeOpenOnes(day);
            for (int days = 0; days <= 30; days++) {
                int end = day + days;
                checks.same("day " + day + " and " + days, desk.trustBehind(1, days), end < 8 ? 5 : end < 15 ? 3 : 1);
                checks.same("of the other", desk.trustBehind(0, days), end < 8 ? 5 : end < 15 ? 4 : 3);
            }
        }
        ApprovalGrid desk = threeOpenOnes(21);
        checks.same("nothing is changed", desk.ofPerson(1, 1), 1);
        desk.charge(1, 0, 0, 100, 0);
        checks.same("not below 0", desk.trustBehind(1, 30), 0);
        desk.receipt(100, 21, 0);
        checks.same("matched ones cost nothing", desk.trustBehind(1, 30), 1);
    }

    /** Open charges that came so many days ago, two of person 1 and one of person 0. */
    private static ApprovalGrid threeOpenOnes(int daysAgo) {
        ApprovalGrid desk = Desks.chain(2);
        desk.charge(1, 0, 0, 100, 0);
        desk.charge(1, 0, 0, 200, 0);
        desk.charge(0, 0, 0, 300, 0);
        Desks.days(desk, daysAgo);
        return desk;
    }

    private static void trustBehindOfOldOnes() {
        ApprovalGrid desk = Desks.chain(2);
        int charge = Desks.matched(desk, 1, 100);
        Desks.days(desk, 20);
        desk.split(charge);
        checks.same("today", desk.trustBehind(1, 0), 5);
        checks.same("repaid as the next day begins", desk.trustBehind(1, 1), 4);
        checks.same("once", desk.trustBehind(1, 30), 4);
        ApprovalGrid eight = Desks.chain(2);
        charge = Desks.matched(eight, 1, 100);
        Desks.days(eight, 8);
        eight.split(charge);
        checks.same("not missing any more", eight.trustBehind(1, 6), 5);
        checks.same("repaid on day 15", eight.trustBehind(1, 7), 4);
    }

    private static void trustBehindTheLastDay() {
        ApprovalGrid desk = Desks.chain(2);
        Desks.days(desk, 111);
        desk.charge(1, 0, 0, 100, 0);
        checks.same("missing on day 119", desk.trustBehind(1, 8), 4);
        desk.day();
        desk.charge(0, 0, 0, 100, 0);
        checks.same("no more days than there are", desk.trustBehind(0, 30), 5);
        checks.same("missing on day 119", desk.trustBehind(1, 30), 4);
    }

    private static void trustBehindRefuses() {
        ApprovalGrid desk = Desks.chain(1);
        checks.noIndex("person 1", desk, () -> desk.trustBehind(1, 0));
        checks.noIndex("person -1, days 31", desk, () -> desk.trustBehind(-1, 31));
        checks.noArgument("days -1", desk, () -> desk.trustBehind(0, -1));
        checks.noArgument("days 31", desk, () -> desk.trustBehind(0, 31));
        checks.noArgument("the most days", desk, () -> desk.trustBehind(0, Integer.MAX_VALUE));
    }

    private static void leftWith() {
        ApprovalGrid desk = Desks.chain(2);
        desk.plan(0, 0, 10000);
        desk.plan(0, 1, 1000);
        desk.carry(0, 50);
        desk.rate(0, 0, 10);
        desk.charge(1, 0, 0, 1100, 0);
        desk.charge(1, 0, 0, 550, 0);
        int disputed = Desks.matched(desk, 1, 220);
        desk.refuse(disputed, 0);
        int repaid = Desks.matched(desk, 1, 330);
        desk.refuse(repaid, 0);
        desk.settle(repaid, true);
        Desks.matched(desk, 1, 440);
        checks.same("left", desk.left(0, 0), 10000 - 1100 - 550 - 220 - 400);
        checks.same("with receipts for the open ones", desk.leftWith(0, 0), 10000 - 1000 - 500 - 220 - 400);
        checks.same("carried over, too", desk.leftWith(0, 1), 1000 + 7880 / 2);
        checks.same("of another kind", desk.leftWith(1, 0), 99999);
        checks.same("left as it was", desk.left(0, 0), 7730);
    }

    private static void leftWithRefuses() {
        ApprovalGrid desk = Desks.chain(1);
        checks.noIndex("kind 4", desk, () -> desk.leftWith(4, 0));
        checks.noIndex("kind -1", desk, () -> desk.leftWith(-1, 0));
        checks.noIndex("period 4", desk, () -> desk.leftWith(0, 4));
        checks.noIndex("period -1", desk, () -> desk.leftWith(0, -1));
    }

    private static void digestOfMany() {
        ApprovalGrid desk = new ApprovalGrid();
        long empty = 58110;
        for (int i = 0; i < 13 + 32; i++) {
            empty *= 31;
        }
        checks.same("of a new desk", desk.digest(), empty);
        checks.same("again", desk.digest(), empty);
        desk = Desks.chain(3);
        desk.rate(0, 0, 10);
        desk.trip(1, 1, 0, 9, 77);
        desk.trip(1, 0, 0, 9, 78);
        Desks.matched(desk, 2, 600);
        desk.charge(2, 0, 0, 700, 0);
        desk.charge(1, 1, 0, 50, 0);
        desk.receipt(5, 5, 5);
        checks.same("of a desk in use", desk.digest(), digestOf(desk));
        Desks.days(desk, 8);
        checks.same("of a later day", desk.digest(), digestOf(desk));
    }

    private static long digestOf(ApprovalGrid desk) {
        java.util.ArrayList<Integer> all = new java.util.ArrayList<>();
        for (int what = 0; what < 13; what++) {
            all.add(desk.many(what));
        }
        for (int person = 0; person < desk.many(0); person++) {
            for (int what = 0; what < 7; what++) {
                all.add(desk.ofPerson(person, what));
            }
            for (int place = 0; place < 8; place++) {
                all.add(desk.maySpend(person, place / 2, place % 2));
            }
        }
        for (int place = 0; place < 32; place++) {
            all.add(place % 2 == 0 ? desk.left(place / 8, place / 2 % 4) : desk.leftWith(place / 8, place / 2 % 4));
        }
        for (int place = 0; place < 12 * desk.many(2); place++) {
            all.add(desk.ofCharge(place / 12, place % 12));
        }
        for (int receipt = 0; receipt < desk.many(8); receipt++) {
            all.add(desk.ofReceipt(receipt));
        }
        for (int person = 0; person < desk.many(0); person++) {
            all.add(desk.trustBehind(person, 20));
        }
        long sum = 58110;
        for (int value : all) {
            sum = sum * 31 + value;
        }
        return sum;
    }
}
