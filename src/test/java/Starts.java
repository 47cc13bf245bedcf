/** The calls that the desks of the edge tests begin with; people are below one another, 0 at the top. */
final class Starts {
    /** What one needs to spend: the limit 9999 for KIND 0, and a plan for each PERIOD of it. */
    private static final String MONEY = "; limit 0 0 9999; limit 1 0 9999; limit 2 0 9999; limit 3 0 9999"
            + "; plan 0 0 99999; plan 0 1 99999; plan 0 2 99999; plan 0 3 99999; ";

    static final String EMPTY = "";

    /** Four people with money for KIND 0, and nothing else. */
    static final String CHAIN = "person -1; person 0; person 1; person 2" + MONEY;

    /** Charges in each state: 0 MATCHED with a step behind it, 1 and 4 OPEN, 2 REPAID, 3 DISPUTED, 5 APPROVED. */
    static final String BUSY = CHAIN + "person 1; limit 3 1 9000; limit 4 0 8000; limit 3 3 500; limit 2 1 900"
            + "; plan 1 0 5000; plan 3 0 2000; carry 0 50; carry 1 100; rate 0 0 20; rate 1 0 10; rate 2 3 30"
            + "; trip 3 1 0 5 4000; trip 2 2 1 9 0; trip 4 1 3 3 777"
            + "; charge 3 0 0 2500 1; charge 3 0 1 700 2; charge 2 1 0 400 3; charge 4 0 0 600 4"
            + "; charge 3 3 2 90 5; charge 0 0 0 50 6"
            + "; receipt 2500 0 1; receipt 705 1 2; receipt 400 0 3; receipt 600 0 4; receipt 50 0 6; receipt 5000 9 9"
            + "; approve 0 2; refuse 2 1; settle 2 true; refuse 3 1; split 1; away 1 4 0; 2 * day";

    /** A busy desk on the last DAY, with an OPEN, a MATCHED and a DISPUTED charge of that DAY. */
    static final String LAST_DAY = BUSY + "; 117 * day; charge 3 0 0 800 1; charge 2 0 0 70 2; charge 2 0 1 300 3"
            + "; receipt 70 119 2; receipt 300 118 3; refuse 8 1; away 0 119 1";

    private Starts() {
    }

    /** As many people, trips, charges and receipts as there can be; 10 charges are OPEN and 10 receipts FREE. */
    static String full() {
        StringBuilder calls = new StringBuilder();
        for (int person = 0; person < 8; person++) {
            calls.append("person ").append(person - 1).append("; trip ").append(person).append(" 2 1 9 5000; ");
            for (int kind = 0; kind < 4; kind++) {
                calls.append("limit ").append(person).append(" ").append(kind).append(" 9999; ");
            }
        }
        for (int place = 0; place < 16; place++) {
            calls.append("plan ").append(place / 4).append(" ").append(place % 4).append(" 99999; ");
        }
        for (int charge = 0; charge < 30; charge++) {
            calls.append("charge ").append(charge % 8).append(" ").append(charge % 4).append(" ").append(charge % 3);
            calls.append(" ").append(100 + 30 * charge).append(" ").append(charge % 10).append("; ");
        }
        for (int receipt = 0; receipt < 30; receipt++) {
            calls.append("receipt ").append(receipt < 20 ? 100 + 30 * receipt : 5000 + 30 * receipt);
            calls.append(" 0 ").append(receipt % 10).append("; ");
        }
        return calls.toString();
    }
}
