/** The bounds that promises 12 and 18 and CHARGES name, sentence by sentence. */
public final class ChargeEdgesTest {
    private static final Edges edges = new Edges();
    private static final String CHAIN = Starts.CHAIN;
    private static final String RICH = CHAIN + "limit 3 1 9999; limit 3 2 9999; limit 3 3 9999"
            + "; plan 1 0 99999; plan 2 0 99999; plan 3 0 99999; ";

    public static void main(String[] args) {
        chargeOfSomebody();
        chargeOfAKindAndLand();
        amountInItsRange();
        textInItsRange();
        chargesAreThirty();
        notMoreThanOneMaySpend();
        notMoreThanTheTripHas();
        notMoreThanIsLeft();
        leftOfTheKindAndTodaysPeriod();
        comesOnTheLastDay();
        ofATripIfThereWasOneThen();
        namedFirst();
        ofChargeOfACharge();
        ofChargeWhat();
        ofChargeNone();
        ofChargeSteps();
        edges.end();
    }

    private static void chargeOfSomebody() {
        edges.sentence("12: Throws IndexOutOfBoundsException if there is no such PERSON");
        edges.index(Starts.EMPTY, "charge # 0 0 1 0", 0);
        edges.index(CHAIN, "charge # 0 0 1 0", 4);
        edges.index("8 * person -1; plan 0 0 99; limit 0 0 9; limit 1 0 9; limit 6 0 9; limit 7 0 9",
                "charge # 0 0 1 0", 8);
    }

    private static void chargeOfAKindAndLand() {
        edges.sentence("12: Throws IndexOutOfBoundsException if there is no such KIND, or LAND");
        edges.range(RICH, "charge 3 # 0 1 0", 0, 3, Edges.INDEX, "ofCharge 0 1");
        edges.index(RICH, "charge 3 0 # 1 0", 3);
    }

    private static void amountInItsRange() {
        edges.sentence("12: Throws IllegalArgumentException if amount is not 1 to 9999");
        edges.range(CHAIN, "charge 3 0 0 # 0", 1, 9999, Edges.ARGUMENT, "ofCharge 0 2");
        edges.range(Starts.LAST_DAY, "charge 0 0 0 # 0", 1, 9999, Edges.ARGUMENT, "ofCharge 9 2");
    }

    private static void textInItsRange() {
        edges.sentence("12: Throws IllegalArgumentException if text is not 0 to 9");
        edges.range(CHAIN, "charge 3 0 0 1 #", 0, 9, Edges.ARGUMENT);
        edges.range(Starts.BUSY, "charge 3 0 0 1 #", 0, 9, Edges.ARGUMENT);
    }

    private static void chargesAreThirty() {
        edges.sentence("12: Throws IllegalStateException if there are 30; CHARGES: at most 30, numbered from 0");
        edges.answers(CHAIN, "charge 3 0 0 1 0", 0, "many 2", 1);
        edges.answers(CHAIN + "28 * charge 3 0 0 1 0", "charge 3 0 0 1 0", 28, "charge 2 0 0 1 0", 29, "many 2", 30);
        edges.refused(CHAIN + "30 * charge 3 0 0 1 0", "charge 3 0 0 1 0", Edges.STATE);
        edges.refused(CHAIN + "30 * charge 3 0 0 1 0; 15 * day", "charge 0 0 0 1 0", Edges.STATE);
        edges.refused(Starts.full(), "charge 7 0 0 1 0", Edges.STATE);
        edges.sentence("12: if there are 30, and something else is wrong: what is named first");
        edges.refused(CHAIN + "30 * charge 3 0 0 1 0", "charge 4 0 0 1 0", Edges.INDEX);
        edges.refused(CHAIN + "30 * charge 3 0 0 1 0", "charge 3 4 0 1 0", Edges.INDEX);
        edges.refused(CHAIN + "30 * charge 3 0 0 1 0", "charge 3 0 3 1 0", Edges.INDEX);
        edges.refused(CHAIN + "30 * charge 3 0 0 1 0", "charge 3 0 0 0 0", Edges.ARGUMENT);
        edges.refused(CHAIN + "30 * charge 3 0 0 1 0", "charge 3 0 0 1 10", Edges.ARGUMENT);
    }

    private static void notMoreThanOneMaySpend() {
        edges.sentence("12: Throws IllegalStateException if amount is more than the PERSON MAY SPEND");
        edges.most(CHAIN + "limit 3 0 500", "charge 3 0 0 # 0", 500, Edges.STATE);
        edges.most(CHAIN + "limit 3 0 500; charge 3 0 2 300 0", "charge 3 0 0 # 0", 200, Edges.STATE);
        edges.refused(CHAIN + "limit 3 0 0", "charge 3 0 0 1 0", Edges.STATE);
        edges.refused(CHAIN + "charge 3 0 0 9999 0", "charge 3 0 0 1 0", Edges.STATE);
        edges.refused(CHAIN + "charge 3 0 0 500 0; limit 3 0 499", "charge 3 0 0 1 0", Edges.STATE);
        edges.refused(CHAIN + "charge 3 0 0 500 0; limit 3 0 500", "charge 3 0 0 1 0", Edges.STATE);
        edges.answers(CHAIN + "charge 3 0 0 500 0; limit 3 0 501", "charge 3 0 0 1 0", 1);
        edges.refused(CHAIN, "charge 3 1 0 1 0", Edges.STATE);
        edges.most(CHAIN + "limit 3 0 500; charge 3 0 0 400 0; 9 * day", "charge 3 0 0 # 0", 50, Edges.STATE);
        edges.most(CHAIN + "limit 3 0 500; charge 3 0 0 400 0; 10 * day", "charge 3 0 0 # 0", 450, Edges.STATE);
    }

    private static void notMoreThanTheTripHas() {
        edges.sentence("12: amount is more than the PERSON MAY SPEND, on a TRIP");
        edges.most(CHAIN + "trip 3 1 0 9 500", "charge 3 0 1 # 0", 500, Edges.STATE);
        edges.most(CHAIN + "limit 3 0 5; trip 3 1 0 9 500", "charge 3 0 1 # 0", 500, Edges.STATE);
        edges.most(CHAIN + "trip 3 1 0 9 500; charge 3 0 1 300 0; 9 * day", "charge 3 0 1 # 0", 200, Edges.STATE);
        edges.most(CHAIN + "trip 3 1 0 9 500; charge 3 0 1 300 0; 10 * day", "charge 3 0 1 # 0", 8999, Edges.STATE);
        edges.refused(CHAIN + "trip 3 1 0 9 0", "charge 3 0 1 1 0", Edges.STATE);
        edges.refused(CHAIN + "trip 3 1 0 9 500; charge 3 0 1 500 0; trip 3 1 0 9 500", "charge 3 0 1 1 0",
                Edges.STATE);
    }

    private static void notMoreThanIsLeft() {
        edges.sentence("12: Throws IllegalStateException if amount is more than what is LEFT of the KIND");
        edges.most(CHAIN + "plan 0 0 500", "charge 3 0 0 # 0", 500, Edges.STATE);
        edges.most(CHAIN + "plan 0 0 500; charge 2 0 0 300 0", "charge 3 0 0 # 0", 200, Edges.STATE);
        edges.most(CHAIN + "plan 0 0 500; trip 3 1 0 9 900", "charge 3 0 1 # 0", 500, Edges.STATE);
        edges.refused(CHAIN + "plan 0 0 0", "charge 3 0 0 1 0", Edges.STATE);
        edges.refused(CHAIN + "charge 3 0 0 500 0; plan 0 0 500", "charge 3 0 0 1 0", Edges.STATE);
        edges.refused(CHAIN + "charge 3 0 0 500 0; plan 0 0 499", "charge 3 0 0 1 0", Edges.STATE);
        edges.answers(CHAIN + "charge 3 0 0 500 0; plan 0 0 501", "charge 3 0 0 1 0", 1);
        edges.sentence("12: more than what is LEFT, and not than what would be with all RECEIPTS");
        edges.most(CHAIN + "plan 0 0 1000; rate 0 0 30; charge 3 0 0 650 0", "charge 3 0 0 # 0", 350, Edges.STATE);
        edges.most(CHAIN + "plan 0 0 1000; rate 0 0 30; charge 3 0 0 650 0; receipt 650 0 0", "charge 3 0 0 # 0", 500,
                Edges.STATE);
    }

    private static void leftOfTheKindAndTodaysPeriod() {
        edges.sentence("12: what is LEFT of the KIND and today's PERIOD");
        String plans = RICH + "plan 0 0 100; plan 0 1 200; plan 0 2 300; plan 0 3 400; plan 1 0 50; ";
        int[][] daysAndLefts = {{0, 100}, {29, 100}, {30, 200}, {59, 200}, {60, 300}, {89, 300}, {90, 400}, {119, 400}};
        for (int[] due : daysAndLefts) {
            edges.most(plans + due[0] + " * day", "charge 3 0 0 # 0", due[1], Edges.STATE);
        }
        edges.most(plans, "charge 3 1 0 # 0", 50, Edges.STATE);
        edges.most(plans + "carry 0 50; charge 3 0 0 40 0; 30 * day", "charge 3 0 0 # 0", 250, Edges.STATE);
        edges.most(plans + "carry 0 50; charge 3 0 0 40 0; receipt 40 0 0; 30 * day", "charge 3 0 0 # 0", 230,
                Edges.STATE);
    }

    private static void comesOnTheLastDay() {
        edges.sentence("12: Lets a CHARGE come, today: on the first and on the last DAY");
        edges.answers(CHAIN, "charge 3 0 0 5 0", 0, "ofCharge 0 3", 0);
        edges.answers(CHAIN + "119 * day", "charge 3 0 0 5 0", 0, "ofCharge 0 3", 119, "left 0 3", 99994);
    }

    private static void ofATripIfThereWasOneThen() {
        edges.sentence("CHARGES: of a TRIP, if there was such a one then, or of none");
        edges.answers(CHAIN + "trip 3 1 1 2 500; charge 3 0 1 5 0; day; charge 3 0 1 5 1; day; charge 3 0 1 5 2; day"
                + "; charge 3 0 1 5 3", "ofCharge 0 6", -1, "ofCharge 1 6", 0, "ofCharge 2 6", 0, "ofCharge 3 6", -1);
        String around = "charge 3 0 1 5 0; trip 3 1 0 9 500; charge 3 0 1 5 0; charge 2 0 1 5 0; charge 3 0 2 5 0";
        edges.answers(CHAIN + around,
                "ofCharge 0 6", -1, "ofCharge 1 6", 0, "ofCharge 2 6", -1, "ofCharge 3 6", -1, "maySpend 3 0 1", 495);
        edges.answers(CHAIN + "7 * trip 0 0 0 0 5; trip 3 1 0 9 500; charge 3 0 1 5 0", "ofCharge 0 6", 7);
    }

    private static void namedFirst() {
        edges.sentence("12: if several exceptions apply, the one that is named first is thrown");
        edges.refused(CHAIN, "charge 4 0 0 0 0", Edges.INDEX);
        edges.refused(CHAIN, "charge 3 4 0 1 10", Edges.INDEX);
        edges.refused(CHAIN, "charge 3 0 3 10000 0", Edges.INDEX);
        edges.refused(CHAIN + "limit 3 0 0", "charge 3 0 3 1 0", Edges.INDEX);
        edges.refused(CHAIN + "limit 3 0 0", "charge 3 0 0 0 0", Edges.ARGUMENT);
        edges.refused(CHAIN + "limit 3 0 0", "charge 3 0 0 1 10", Edges.ARGUMENT);
        edges.refused(CHAIN + "plan 0 0 0", "charge 3 0 0 10000 0", Edges.ARGUMENT);
        edges.refused(CHAIN + "plan 0 0 0", "charge 3 0 0 1 10", Edges.ARGUMENT);
        edges.refused(CHAIN + "plan 0 0 0; limit 3 0 0", "charge 3 0 0 1 0", Edges.STATE);
    }

    private static void ofChargeOfACharge() {
        edges.sentence("18: Throws IndexOutOfBoundsException if there is no such CHARGE");
        edges.index(Starts.EMPTY, "ofCharge # 4", 0);
        edges.index(CHAIN + "charge 3 0 0 1 0", "ofCharge # 4", 1);
        edges.index(Starts.BUSY, "ofCharge # 4", 6);
        edges.index(Starts.full(), "ofCharge # 4", 30);
        edges.sentence("18: no such CHARGE, and what is not 0 to 11: what is named first");
        edges.refused(Starts.BUSY, "ofCharge 6 12", Edges.INDEX);
        edges.refused(Starts.BUSY, "ofCharge -1 -1", Edges.INDEX);
    }

    private static void ofChargeWhat() {
        edges.sentence("18: Throws IllegalArgumentException if what is not 0 to 11");
        edges.range(Starts.BUSY, "ofCharge 0 #", 0, 11, Edges.ARGUMENT);
        edges.sentence("18: 0 its PERSON, .. 11 1 if it was ever MISSING, otherwise 0");
        edges.answers(Starts.BUSY + "; 6 * day", "ofCharge 1 0", 3, "ofCharge 1 1", 0, "ofCharge 1 2", 700,
                "ofCharge 1 3", 0, "ofCharge 1 4", 0, "ofCharge 1 5", -1, "ofCharge 1 6", 0, "ofCharge 1 7", 63,
                "ofCharge 1 8", 700, "ofCharge 1 9", 0, "ofCharge 1 10", -1, "ofCharge 1 11", 1);
        edges.answers(Starts.BUSY, "ofCharge 0 0", 3, "ofCharge 0 4", 1, "ofCharge 0 5", 0, "ofCharge 0 6", -1,
                "ofCharge 0 7", 416, "ofCharge 0 8", 2084, "ofCharge 0 9", 1, "ofCharge 0 10", 0, "ofCharge 0 11", 0,
                "ofCharge 4 1", 3);
    }

    private static void ofChargeNone() {
        edges.sentence("18: 5 its RECEIPT (NONE, if it has none), in each state");
        edges.answers(Starts.BUSY, "ofCharge 0 5", 0, "ofCharge 1 5", -1, "ofCharge 2 5", 2, "ofCharge 3 5", 3,
                "ofCharge 4 5", -1, "ofCharge 5 5", 4);
        edges.answers(CHAIN + "charge 3 0 0 5 0; 15 * day", "ofCharge 0 4", 3, "ofCharge 0 5", -1);
        edges.sentence("18: 10 who has to approve the next STEP (NONE, if it is not MATCHED)");
        edges.answers(Starts.BUSY, "ofCharge 0 10", 0, "ofCharge 1 10", -1, "ofCharge 2 10", -1, "ofCharge 3 10", -1,
                "ofCharge 4 10", -1, "ofCharge 5 10", -1);
    }

    private static void ofChargeSteps() {
        edges.sentence("18: 9 STEPS that were APPROVED or left out");
        String matched = CHAIN + "charge 3 0 0 2001 0; receipt 2001 0 0";
        edges.answers(matched, "ofCharge 0 9", 0, "approve 0 2", 1, "ofCharge 0 9", 1, "away 1 0 3", false,
                "ofCharge 0 9", 2, "approve 0 0", 2, "ofCharge 0 9", 3);
        edges.answers(CHAIN + "charge 0 0 0 2001 0; receipt 2001 0 0", "ofCharge 0 4", 2, "ofCharge 0 9", 0);
        edges.answers(matched + "; approve 0 2; refuse 0 1", "ofCharge 0 9", 1, "settle 0 true", 3, "ofCharge 0 9", 1);
    }
}
