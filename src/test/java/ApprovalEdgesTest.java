/** The bounds that promises 14 to 17 and APPROVAL name, sentence by sentence. */
public final class ApprovalEdgesTest {
    private static final Edges edges = new Edges();
    /** Six people, each below the one ahead; charges are of 5, and 4, 3 and 2 have the STEPS. */
    private static final String SIX = Starts.CHAIN + "person 3; person 4; limit 5 0 9999; limit 4 0 9999; ";
    private static final String MATCHED = SIX + "charge 5 0 0 600 0; receipt 600 0 0; ";
    private static final String OPEN = SIX + "charge 5 0 0 600 0; ";
    private static final String APPROVED = MATCHED + "approve 0 4; approve 0 3; ";
    private static final String DISPUTED = MATCHED + "approve 0 4; refuse 0 3; ";
    private static final String REPAID = DISPUTED + "settle 0 true; ";
    private static final String REPAID_BY_DAYS = OPEN + "15 * day; ";

    public static void main(String[] args) {
        stepsByAmount();
        noMoreBosses();
        bossOrStandIn();
        standInOfTheCharge();
        standInWhoIsAway();
        awayOnTheLastDay();
        leftOutAtTheEndOfACall();
        leftOutTillSplitOrSettled();
        approvedWithNoStepsLeft();
        splitOfACharge();
        splitOnlyMatched();
        splitOpens();
        splitKeepsPoints();
        judgedBySomebody("15", "approve");
        judgedBySomebody("16", "refuse");
        judgedOnlyIfMatched("15", "approve");
        judgedOnlyIfMatched("16", "refuse");
        judgedByNobodyElse("15", "approve");
        judgedByNobodyElse("16", "refuse");
        approveTellsTheState();
        refuseTellsHowMany();
        settleOfACharge();
        settleOnlyDisputed();
        settleRepaid();
        settleMatched();
        edges.end();
    }

    private static void stepsByAmount() {
        edges.sentence("APPROVAL: so many STEPS: 1, 2 with an AMOUNT above 500, 3 above 2000");
        int[][] amountsAndSteps = {{1, 1}, {499, 1}, {500, 1}, {501, 2}, {1999, 2}, {2000, 2}, {2001, 3}, {9999, 3}};
        for (int[] due : amountsAndSteps) {
            String matched = SIX + "charge 5 0 0 " + due[0] + " 0; receipt " + due[0] + " 0 0; ";
            String[] approvals = {"approve 0 4; ", "approve 0 3; ", "approve 0 2; "};
            for (int step = 0; step < due[1]; step++) {
                edges.answers(matched, "ofCharge 0 4", 1, "ofCharge 0 9", step, "ofCharge 0 10", 4 - step);
                matched += approvals[step];
            }
            edges.answers(matched, "ofCharge 0 4", 2, "ofCharge 0 9", due[1], "ofCharge 0 10", -1);
        }
    }

    private static void noMoreBosses() {
        edges.sentence("APPROVAL: with no BOSS any more there are no more STEPS");
        edges.answers(SIX + "charge 0 0 0 9999 0", "receipt 9999 0 0", 0, "ofCharge 0 4", 2, "ofCharge 0 9", 0);
        edges.answers(SIX + "charge 0 0 0 1 0", "receipt 1 0 0", 0, "ofCharge 0 4", 2, "ofCharge 0 9", 0);
        edges.answers(SIX + "charge 1 0 0 9999 0; receipt 9999 0 0", "approve 0 0", 2, "ofCharge 0 9", 1);
        edges.answers(SIX + "charge 2 0 0 9999 0; receipt 9999 0 0", "approve 0 1", 1, "approve 0 0", 2,
                "ofCharge 0 9", 2);
        edges.answers(SIX + "charge 3 0 0 9999 0; receipt 9999 0 0", "approve 0 2", 1, "approve 0 1", 1,
                "approve 0 0", 2,
                "ofCharge 0 9", 3);
    }

    private static void bossOrStandIn() {
        edges.sentence("APPROVAL: Who APPROVES a STEP: that BOSS, or, if that one is AWAY, the STAND-IN");
        edges.answers(MATCHED, "ofCharge 0 10", 4, "away 4 0 1", false, "ofCharge 0 10", 1, "ofPerson 1 6", 1,
                "ofPerson 4 6", 0, "approve 0 4", Edges.STATE, "approve 0 1", 1, "ofCharge 0 10", 3);
        edges.answers(MATCHED + "away 4 0 3", "approve 0 3", 1, "ofCharge 0 10", 3, "approve 0 3", 2);
        edges.answers(MATCHED + "away 4 9 1; away 4 9 2", "ofCharge 0 10", 2);
        edges.sentence("APPROVAL: STEP 1 is of the BOSS of that of the STEP ahead, and not of the STAND-IN's");
        edges.answers(MATCHED + "away 4 0 2; approve 0 2", "ofCharge 0 10", 3);
    }

    private static void standInOfTheCharge() {
        edges.sentence("APPROVAL: but if that is the PERSON of the CHARGE nobody");
        edges.answers(MATCHED + "away 4 0 5", "ofCharge 0 9", 1, "ofCharge 0 10", 3, "approve 0 5", Edges.STATE);
        edges.answers(MATCHED + "charge 4 0 0 50 0; receipt 50 0 0; away 3 0 5", "ofCharge 1 10", 5, "ofCharge 0 10", 4,
                "approve 0 4", 2, "ofCharge 0 9", 2, "approve 1 5", 2);
    }

    private static void standInWhoIsAway() {
        edges.sentence("APPROVAL: but if that is AWAY, too, nobody");
        edges.answers(MATCHED + "away 1 0 0; away 4 0 1", "ofCharge 0 9", 1, "ofCharge 0 10", 3);
        edges.answers(MATCHED + "away 4 0 1; away 1 0 0", "ofCharge 0 9", 1, "ofCharge 0 10", 3);
        edges.answers(MATCHED + "2 * day; away 1 1 0; away 4 2 1", "ofCharge 0 9", 0, "ofCharge 0 10", 1);
        edges.answers(MATCHED + "2 * day; away 1 2 0; away 4 2 1", "ofCharge 0 9", 1, "ofCharge 0 10", 3);
        edges.answers(MATCHED + "away 4 0 3; away 3 0 4", "ofCharge 0 4", 2, "ofCharge 0 9", 2);
    }

    private static void awayOnTheLastDay() {
        edges.sentence("APPROVAL: if that one is AWAY: up to a DAY, with it");
        edges.answers(MATCHED + "away 4 2 1; day", "ofCharge 0 10", 1, "day", 0, "ofCharge 0 10", 1, "day", 0,
                "ofCharge 0 10", 4, "approve 0 1", Edges.STATE, "approve 0 4", 1);
    }

    private static void leftOutAtTheEndOfACall() {
        edges.sentence("APPROVAL: At the end of each call that changes something: away()");
        edges.answers(MATCHED, "away 4 0 5", false, "ofCharge 0 9", 1);
        edges.sentence("APPROVAL: At the end of each call that changes something: receipt(), charge()");
        edges.answers(OPEN + "away 4 0 5", "ofCharge 0 9", 0, "receipt 600 0 0", 0, "ofCharge 0 9", 1);
        edges.answers(SIX + "away 4 0 5; receipt 600 0 0", "charge 5 0 0 600 0", 0, "ofCharge 0 9", 1);
        edges.answers(SIX + "away 4 0 5; receipt 500 0 0", "charge 5 0 0 500 0", 0, "ofCharge 0 4", 2);
        edges.sentence("APPROVAL: At the end of each call that changes something: approve()");
        edges.answers(SIX + "charge 5 0 0 2001 0; receipt 2001 0 0; away 3 0 5", "ofCharge 0 9", 0, "approve 0 4", 1,
                "ofCharge 0 9", 2, "ofCharge 0 10", 2, "approve 0 2", 2);
        edges.answers(MATCHED + "away 3 0 5", "approve 0 4", 2, "ofCharge 0 9", 2);
        edges.sentence("APPROVAL: At the end of each call that changes something: settle(), split()");
        edges.answers(DISPUTED + "away 4 0 5", "settle 0 false", 1, "ofCharge 0 9", 1);
        edges.answers(MATCHED + "away 4 0 5; receipt 600 0 0", "split 0", 1, "ofCharge 0 5", 1, "ofCharge 0 9", 1);
    }

    private static void leftOutTillSplitOrSettled() {
        edges.sentence("APPROVAL: that is left out (till it is SPLIT, or settled)");
        String leftOut = MATCHED + "away 4 1 5; ";
        edges.answers(leftOut + "away 4 1 2", "ofCharge 0 9", 1, "ofCharge 0 10", 3);
        edges.answers(leftOut + "2 * day", "ofPerson 4 3", 0, "ofCharge 0 9", 1, "ofCharge 0 10", 3, "approve 0 3", 2);
        edges.answers(leftOut + "2 * day; receipt 600 0 0", "split 0", 1, "ofCharge 0 9", 0, "ofCharge 0 10", 4);
        edges.answers(leftOut + "2 * day; refuse 0 3", "settle 0 false", 1, "ofCharge 0 9", 0, "ofCharge 0 10", 4);
        edges.answers(leftOut + "2 * day; refuse 0 3", "settle 0 true", 3, "ofCharge 0 9", 1);
    }

    private static void approvedWithNoStepsLeft() {
        edges.sentence("APPROVAL: as long as it has STEPS left; with no STEPS left it is APPROVED");
        String three = SIX + "charge 5 0 0 2001 0; receipt 2001 0 0; away 4 0 5; away 3 0 5; ";
        edges.answers(three, "ofCharge 0 4", 1, "ofCharge 0 9", 2, "away 2 0 5", false, "ofCharge 0 4", 2,
                "ofCharge 0 9", 3, "away 1 0 5", false, "ofCharge 0 9", 3);
        edges.sentence("APPROVAL: APPROVED it stays, also if a BOSS is back");
        edges.answers(three + "away 2 0 5; day", "ofCharge 0 4", 2, "ofCharge 0 10", -1, "split 0", Edges.STATE);
        edges.sentence("APPROVAL: CHARGE by CHARGE that is MATCHED");
        edges.answers(SIX + "30 * charge 5 0 0 300 0; 29 * receipt 300 0 0; away 4 0 5", "many 5", 29, "many 3", 1);
    }

    private static void splitOfACharge() {
        edges.sentence("14: Throws IndexOutOfBoundsException if there is no such CHARGE");
        edges.index(SIX + "3 * charge 5 0 0 50 0; 3 * receipt 50 0 0", "split #", 3);
        edges.index(SIX + "30 * charge 5 0 0 50 0; 30 * receipt 50 0 0", "split #", 30);
        edges.refused(Starts.EMPTY, "split 0", Edges.INDEX);
    }

    private static void splitOnlyMatched() {
        edges.sentence("14: Throws IllegalStateException if it is not MATCHED");
        for (String start : new String[] {OPEN, APPROVED, DISPUTED, REPAID, REPAID_BY_DAYS}) {
            edges.refused(start, "split 0", Edges.STATE);
        }
        edges.refused(MATCHED + "split 0", "split 0", Edges.STATE);
        edges.refused(MATCHED + "split 0; 15 * day", "split 0", Edges.STATE);
    }

    private static void splitOpens() {
        edges.sentence("14: it is OPEN, with no STEPS behind it, the RECEIPT FREE");
        edges.answers(MATCHED + "approve 0 4", "ofCharge 0 9", 1, "split 0", 0, "ofCharge 0 4", 0, "ofCharge 0 9", 0,
                "ofCharge 0 5", -1, "ofReceipt 0", -1, "ofCharge 0 10", -1, "many 9", 1, "many 3", 1, "many 4", 0);
        edges.sentence("14: Returns its state at the end.");
        edges.answers(MATCHED + "receipt 600 0 0", "split 0", 1, "split 0", 0);
        edges.answers(MATCHED + "receipt 600 0 0; approve 0 4; away 4 0 5", "split 0", 1, "ofCharge 0 9", 1);
    }

    private static void splitKeepsPoints() {
        edges.sentence("14: POINTS and TRUST stay; what is MATCHED anew by that gives POINTS as ever");
        edges.answers(MATCHED, "ofPerson 5 2", 1, "split 0", 0, "ofPerson 5 2", 1, "ofPerson 5 1", 5);
        edges.answers(MATCHED + "receipt 600 0 0", "split 0", 1, "ofPerson 5 2", 2);
        edges.answers(MATCHED + "receipt 600 0 0; 7 * day", "split 0", 1, "ofPerson 5 2", 2);
        edges.answers(MATCHED + "receipt 600 0 0; 8 * day", "split 0", 1, "ofPerson 5 2", 1);
        edges.answers(MATCHED + "2 * receipt 600 0 0; split 0", "ofPerson 5 2", 2, "split 0", 1, "ofPerson 5 2", 0,
                "ofPerson 5 1", 6, "split 0", 0, "ofPerson 5 1", 6);
    }

    /** Promise 15 or 16: who may approve may refuse. */
    private static void judgedBySomebody(String promise, String judge) {
        edges.sentence(promise + ": Throws IndexOutOfBoundsException if there is no such CHARGE, or PERSON");
        edges.index(SIX + "3 * charge 5 0 0 50 0; 3 * receipt 50 0 0", judge + " # 4", 3);
        for (int nobody : new int[] {6, -1, Integer.MAX_VALUE, Integer.MIN_VALUE}) {
            edges.refused(MATCHED, judge + " 0 " + nobody, Edges.INDEX);
        }
        edges.refused(MATCHED, judge + " 1 6", Edges.INDEX);
        edges.sentence(promise + ": no such PERSON, or CHARGE, and it is not MATCHED: what is named first");
        edges.refused(OPEN, judge + " 0 6", Edges.INDEX);
        edges.refused(OPEN, judge + " 0 -1", Edges.INDEX);
        edges.refused(OPEN, judge + " 1 4", Edges.INDEX);
        edges.refused(APPROVED, judge + " 0 -1", Edges.INDEX);
    }

    private static void judgedOnlyIfMatched(String promise, String judge) {
        edges.sentence(promise + ": Throws IllegalStateException if it is not MATCHED");
        for (String start : new String[] {OPEN, APPROVED, DISPUTED, REPAID, REPAID_BY_DAYS}) {
            for (int person = 0; person < 6; person++) {
                edges.refused(start, judge + " 0 " + person, Edges.STATE);
            }
        }
    }

    private static void judgedByNobodyElse(String promise, String judge) {
        edges.sentence(promise + ": Throws IllegalStateException if somebody else has to");
        for (int person : new int[] {0, 1, 2, 3, 5}) {
            edges.refused(MATCHED, judge + " 0 " + person, Edges.STATE);
        }
        for (int person : new int[] {0, 1, 2, 4, 5}) {
            edges.refused(MATCHED + "approve 0 4", judge + " 0 " + person, Edges.STATE);
        }
        edges.refused(MATCHED + "away 4 0 2", judge + " 0 4", Edges.STATE);
        edges.refused(MATCHED + "away 4 0 2; day", judge + " 0 2", Edges.STATE);
    }

    private static void approveTellsTheState() {
        edges.sentence("15: Returns the state of the CHARGE then.");
        edges.answers(MATCHED, "approve 0 4", 1, "approve 0 3", 2);
        edges.answers(MATCHED + "away 4 0 2", "approve 0 2", 1, "ofCharge 0 4", 1);
    }

    private static void refuseTellsHowMany() {
        edges.sentence("16: it is DISPUTED. Returns how many CHARGES are DISPUTED then.");
        edges.answers(MATCHED, "refuse 0 4", 1, "ofCharge 0 4", 4, "ofCharge 0 9", 0, "ofCharge 0 5", 0, "many 7", 1);
        edges.answers(SIX + "3 * charge 5 0 0 50 0; 3 * receipt 50 0 0", "refuse 1 4", 1, "refuse 0 4", 2,
                "settle 1 true", 3, "refuse 2 4", 2, "settle 0 false", 1, "refuse 0 4", 2);
        edges.answers(MATCHED + "away 4 0 2", "refuse 0 2", 1, "ofCharge 0 4", 4);
        edges.sentence("16: a full desk, where all are DISPUTED");
        StringBuilder refused = new StringBuilder(SIX + "30 * charge 5 0 0 50 0; 30 * receipt 50 0 0; ");
        for (int charge = 0; charge < 29; charge++) {
            refused.append("refuse ").append(charge).append(" 4; ");
        }
        edges.answers(refused.toString(), "many 7", 29, "refuse 29 4", 30, "many 7", 30);
    }

    private static void settleOfACharge() {
        edges.sentence("17: Throws IndexOutOfBoundsException if there is no such CHARGE");
        String three = SIX + "3 * charge 5 0 0 50 0; 3 * receipt 50 0 0; refuse 0 4; refuse 1 4; refuse 2 4; ";
        edges.index(three, "settle # true", 3);
        edges.index(three, "settle # false", 3);
    }

    private static void settleOnlyDisputed() {
        edges.sentence("17: Throws IllegalStateException if it is not DISPUTED");
        String[] others = {OPEN, MATCHED, MATCHED + "approve 0 4", APPROVED, REPAID, REPAID_BY_DAYS,
            DISPUTED + "settle 0 false"};
        for (String start : others) {
            edges.refused(start, "settle 0 true", Edges.STATE);
            edges.refused(start, "settle 0 false", Edges.STATE);
        }
    }

    private static void settleRepaid() {
        edges.sentence("17: it is REPAID (it keeps its RECEIPT and its STEPS)");
        edges.answers(DISPUTED, "settle 0 true", 3, "ofCharge 0 4", 3, "ofCharge 0 5", 0, "ofReceipt 0", 0,
                "ofCharge 0 9", 1, "ofCharge 0 10", -1, "many 6", 1, "ofPerson 5 1", 5, "ofPerson 5 2", 1);
        edges.answers(MATCHED + "refuse 0 4", "settle 0 true", 3, "ofCharge 0 9", 0);
    }

    private static void settleMatched() {
        edges.sentence("17: or MATCHED again (without a POINT), with its RECEIPT, from the STEP 0 on");
        edges.answers(DISPUTED, "ofPerson 5 2", 1, "settle 0 false", 1, "ofPerson 5 2", 1, "ofCharge 0 5", 0,
                "ofReceipt 0", 0, "ofCharge 0 9", 0, "ofCharge 0 10", 4, "approve 0 4", 1, "approve 0 3", 2);
        edges.answers(DISPUTED + "settle 0 false", "split 0", 0, "ofReceipt 0", -1);
        edges.sentence("17: Returns its state at the end.");
        edges.answers(DISPUTED + "away 4 0 5; away 3 0 5", "settle 0 false", 2, "ofCharge 0 9", 2);
        edges.answers(DISPUTED + "away 4 0 5", "settle 0 false", 1, "ofCharge 0 10", 3);
    }
}
