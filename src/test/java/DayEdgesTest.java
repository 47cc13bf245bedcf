/** The bounds that promises 21 to 23 and DAYS name, sentence by sentence. */
public final class DayEdgesTest {
    private static final Edges edges = new Edges();
    private static final String CHAIN = Starts.CHAIN;
    private static final String OPEN = CHAIN + "charge 3 0 0 100 0; ";
    private static final String MATCHED = OPEN + "receipt 100 0 0; ";

    public static void main(String[] args) {
        lastDay();
        missingOnTheEighthDay();
        missingNoMoreThanOnce();
        repaidOnTheFifteenthDay();
        repaidWhenOlder();
        onlyOpenOnes();
        trustNotBelowZero();
        tellsMissingAndRepaid();
        daysOfAFullDesk();
        manyWhat();
        manyOfAFullDesk();
        manyAmountsAndCosts();
        meanOfNobody();
        meanIsNotCut();
        edges.end();
    }

    private static void lastDay() {
        edges.sentence("21: Throws IllegalStateException if it is DAY 119");
        edges.answers("117 * day", "many 10", 117, "day", 0, "many 10", 118, "day", 0, "many 10", 119);
        edges.refused("119 * day", "day", Edges.STATE);
        edges.refused(Starts.LAST_DAY, "day", Edges.STATE);
        edges.refused(CHAIN + "112 * day; charge 3 0 0 5 0; 7 * day", "day", Edges.STATE);
        edges.refused(CHAIN + "105 * day; charge 3 0 0 5 0; 14 * day", "day", Edges.STATE);
        edges.answers(CHAIN + "111 * day; charge 3 0 0 5 0; 7 * day", "day", 1, "ofCharge 0 11", 1, "many 10", 119);
        edges.answers(CHAIN + "104 * day; charge 3 0 0 5 0; 14 * day", "day", 1, "ofCharge 0 4", 3, "many 10", 119);
        edges.sentence("Terms: the last DAY: all but the next one goes on");
        edges.answers(Starts.LAST_DAY, "charge 3 0 0 40 0", 9, "receipt 40 119 0", 9, "approve 9 2", 2,
                "split 8", Edges.STATE, "settle 8 false", 1, "split 8", 0, "trip 3 2 119 119 50", 3,
                "maySpend 3 0 2", 50,
                "left 0 3", 187157 - 800 - 59 - 300 - 34, "day", Edges.STATE);
    }

    private static void missingOnTheEighthDay() {
        edges.sentence("DAYS: one that came just 8 DAYS ago is MISSING: the TRUST of its PERSON is 1 less");
        edges.answers(OPEN + "6 * day", "day", 0, "ofCharge 0 11", 0, "ofPerson 3 1", 5, "day", 1, "ofCharge 0 11", 1,
                "ofPerson 3 1", 4, "ofCharge 0 4", 0, "ofPerson 2 1", 5, "day", 0, "ofPerson 3 1", 4,
                "ofCharge 0 11", 1);
        edges.answers(CHAIN + "20 * day; charge 3 0 0 100 0; 7 * day", "day", 1, "ofCharge 0 11", 1);
    }

    private static void missingNoMoreThanOnce() {
        edges.sentence("DAYS: just 8 DAYS ago: one that was not OPEN then is not MISSING");
        edges.answers(MATCHED + "7 * day; split 0", "day", 1, "ofCharge 0 11", 1);
        edges.answers(MATCHED + "8 * day; split 0", "ofCharge 0 11", 0, "day", 0, "ofCharge 0 11", 0,
                "ofPerson 3 1", 5);
        edges.answers(MATCHED + "9 * day; split 0", "day", 0, "ofCharge 0 11", 0);
        edges.sentence("18: 11 1 if it was ever MISSING");
        edges.answers(OPEN + "8 * day; receipt 100 0 0", "ofCharge 0 4", 1, "ofCharge 0 11", 1, "split 0", 0,
                "ofCharge 0 11", 1, "day", 0, "ofPerson 3 1", 4);
        edges.answers(OPEN + "15 * day", "ofCharge 0 4", 3, "ofCharge 0 11", 1);
        edges.answers(MATCHED + "14 * day; split 0; day", "ofCharge 0 4", 3, "ofCharge 0 11", 0);
    }

    private static void repaidOnTheFifteenthDay() {
        edges.sentence("DAYS: one that came 15 DAYS ago, or more, is REPAID, and that TRUST 1 less");
        edges.answers(OPEN + "13 * day", "day", 0, "ofCharge 0 4", 0, "ofPerson 3 1", 4, "day", 1, "ofCharge 0 4", 3,
                "ofPerson 3 1", 3, "ofPerson 2 1", 5, "ofPerson 3 5", 100, "day", 0, "ofPerson 3 1", 3);
    }

    private static void repaidWhenOlder() {
        edges.sentence("DAYS: 15 DAYS ago, or more");
        edges.answers(MATCHED + "13 * day; split 0", "day", 0, "ofCharge 0 4", 0, "day", 1, "ofCharge 0 4", 3);
        edges.answers(MATCHED + "14 * day; split 0", "day", 1, "ofCharge 0 4", 3, "ofPerson 3 1", 4);
        edges.answers(MATCHED + "15 * day; split 0", "ofCharge 0 4", 0, "day", 1, "ofCharge 0 4", 3, "ofPerson 3 1", 4);
        edges.answers(MATCHED + "16 * day; split 0", "ofCharge 0 4", 0, "day", 1, "ofCharge 0 4", 3, "ofPerson 3 1", 4);
        edges.answers(MATCHED + "118 * day; split 0", "ofCharge 0 4", 0, "day", 1, "ofCharge 0 4", 3);
        edges.answers(MATCHED + "119 * day; split 0", "ofCharge 0 4", 0, "day", Edges.STATE, "ofCharge 0 4", 0);
    }

    private static void onlyOpenOnes() {
        edges.sentence("DAYS: CHARGE by CHARGE that is OPEN");
        String[] states = {"", "approve 0 2; ", "refuse 0 2; ", "refuse 0 2; settle 0 true; "};
        for (String state : states) {
            edges.answers(MATCHED + state + "7 * day", "day", 0, "ofCharge 0 11", 0, "ofPerson 3 1", 5);
            edges.answers(MATCHED + state + "14 * day", "day", 0, "ofPerson 3 1", 5, "ofPerson 3 2", 1, "day", 0);
        }
    }

    private static void trustNotBelowZero() {
        edges.sentence("DAYS: TRUST 1 less (not below 0), MISSING");
        edges.answers(CHAIN + "5 * charge 3 0 0 100 0; 7 * day", "day", 5, "ofPerson 3 1", 0);
        edges.answers(CHAIN + "6 * charge 3 0 0 100 0; 7 * day", "day", 6, "ofPerson 3 1", 0);
        edges.answers(CHAIN + "4 * charge 3 0 0 100 0; 7 * day", "day", 4, "ofPerson 3 1", 1);
        edges.sentence("DAYS: TRUST 1 less (not below 0), REPAID");
        edges.answers(CHAIN + "2 * charge 3 0 0 100 0; 14 * day", "ofPerson 3 1", 3, "day", 2, "ofPerson 3 1", 1);
        edges.answers(CHAIN + "3 * charge 3 0 0 100 0; 14 * day", "ofPerson 3 1", 2, "day", 3, "ofPerson 3 1", 0);
        edges.answers(CHAIN + "30 * charge 3 0 0 100 0; 15 * day", "ofPerson 3 1", 0, "maySpend 3 0 0", 4999);
        edges.sentence("DAYS: POINTS stay, and TRUST grows again from 0");
        edges.answers(MATCHED + "charge 3 0 0 300 0; 8 * day", "ofPerson 3 1", 4, "ofPerson 3 2", 1);
        edges.answers(CHAIN + "5 * charge 3 0 0 100 0; 8 * day; 3 * charge 3 0 0 200 0; 3 * receipt 200 8 0",
                "ofPerson 3 1", 1, "ofPerson 3 2", 0);
    }

    private static void tellsMissingAndRepaid() {
        edges.sentence("21: Returns how many CHARGES are MISSING, or REPAID, by that.");
        edges.answers(CHAIN + "2 * charge 3 0 0 100 0; 7 * day; charge 2 0 0 100 0; 7 * day", "many 10", 14, "day", 3,
                "many 6", 2, "ofCharge 2 11", 1, "day", 0);
        edges.answers(CHAIN + "8 * day", "day", 0);
    }

    private static void daysOfAFullDesk() {
        edges.sentence("DAYS: a desk that is full of people, trips, charges and receipts");
        edges.answers(Starts.full() + "7 * day", "day", 10, "many 3", 10, "day", 0);
        edges.answers(Starts.full() + "14 * day", "many 3", 10, "day", 10, "many 3", 0, "many 6", 10);
        edges.answers(CHAIN + "30 * charge 2 0 0 100 0; 7 * day", "day", 30, "day", 0);
        edges.answers(CHAIN + "30 * charge 2 0 0 100 0; 14 * day", "day", 30, "many 6", 30, "day", 0);
    }

    private static void manyWhat() {
        edges.sentence("22: Throws IllegalArgumentException if what is not 0 to 12");
        edges.range(Starts.EMPTY, "many #", 0, 12, Edges.ARGUMENT);
        edges.range(Starts.BUSY, "many #", 0, 12, Edges.ARGUMENT);
        edges.sentence("22: 0 PEOPLE, 1 TRIPS, 2 CHARGES, .. 11 AMOUNTS of all that are not REPAID, 12 their COSTS");
        edges.answers(Starts.BUSY, "many 0", 5, "many 1", 3, "many 2", 6, "many 3", 2, "many 4", 1, "many 5", 1,
                "many 6", 1, "many 7", 1, "many 8", 6, "many 9", 2, "many 10", 2,
                "many 11", 2500 + 700 + 600 + 90 + 50, "many 12", 2084 + 700 + 600 + 90 + 42);
    }

    private static void manyOfAFullDesk() {
        edges.sentence("22: a desk that is full of people, trips, charges and receipts");
        int amounts = 30 * 100 + 30 * (29 * 30 / 2);
        edges.answers(Starts.full(), "many 0", 8, "many 1", 8, "many 2", 30, "many 3", 10, "many 4", 17, "many 5", 3,
                "many 6", 0, "many 7", 0, "many 8", 30, "many 9", 10, "many 11", amounts, "many 12", amounts);
        edges.answers(CHAIN + "30 * charge 3 0 0 333 0; 30 * receipt 333 0 0", "many 3", 0, "many 4", 30, "many 9", 0);
    }

    private static void manyAmountsAndCosts() {
        edges.sentence("22: 11 AMOUNTS of all CHARGES that are not REPAID, 12 their COSTS: REPAID by the DAY, too");
        edges.answers(OPEN + "rate 0 0 30; 14 * day", "many 11", 100, "many 12", 100, "day", 1, "many 11", 0,
                "many 12", 0);
        edges.answers(MATCHED + "rate 0 0 30", "many 11", 100, "many 12", 77);
    }

    private static void meanOfNobody() {
        edges.sentence("23: the mean TRUST of all PEOPLE; 0 without any.");
        edges.answers(Starts.EMPTY, "meanTrust", 0.0, "day", 0, "meanTrust", 0.0, "person -1", 0, "meanTrust", 5.0);
    }

    private static void meanIsNotCut() {
        edges.sentence("23: the mean TRUST of all PEOPLE, not cut");
        edges.answers(OPEN + "8 * day", "meanTrust", 4.75);
        edges.answers("person -1; limit 0 0 9; plan 0 0 9; charge 0 0 0 5 0; 8 * day; person 0; person 1",
                "meanTrust", 14.0 / 3);
        edges.answers(CHAIN + "charge 3 0 0 5 0; 8 * day; 4 * person 0", "meanTrust", 4.875);
        edges.answers("person -1; limit 0 0 99; plan 0 0 99; 5 * charge 0 0 0 5 0; 8 * day", "meanTrust", 0.0);
        edges.answers("8 * person -1", "meanTrust", 5.0);
    }
}
