/** The bounds that promises 13, 19 and 20 and RECEIPTS name, sentence by sentence. */
public final class ReceiptEdgesTest {
    private static final Edges edges = new Edges();
    private static final String CHAIN = Starts.CHAIN;
    /** A charge of 100 that came on DAY 5, with the TEXT 4. */
    private static final String HUNDRED = CHAIN + "5 * day; charge 3 0 0 100 4";

    public static void main(String[] args) {
        amountInItsRange();
        dayInItsRange();
        textInItsRange();
        receiptsAreThirty();
        namedFirst();
        tellsTheCharge();
        amountsDifferByTen();
        daysDifferByThree();
        onlyOpenAndFreeOnes();
        neverSplitFromEachOther();
        scoreOfAChargeAndReceipt();
        scoreAtTheEdges();
        scoreWhateverTheyAreNow();
        greatestScore();
        smallestCharge();
        smallestReceipt();
        asLongAsTwoGoTogether();
        pointUpToSevenDays();
        threePointsAreTrust();
        trustTenAtMost();
        ofReceiptOfAReceipt();
        ofAChargeTillTheyAreSplit();
        edges.end();
    }

    private static void amountInItsRange() {
        edges.sentence("13: Throws IllegalArgumentException if amount is not 1 to 9999");
        edges.range(CHAIN, "receipt # 0 0", 1, 9999, Edges.ARGUMENT);
        edges.range(Starts.BUSY, "receipt # 0 0", 1, 9999, Edges.ARGUMENT);
        edges.answers(CHAIN + "charge 3 0 0 9999 0; receipt 9999 0 0", "ofCharge 0 4", 1);
        edges.answers(CHAIN + "charge 3 0 0 1 0; receipt 1 0 0", "ofCharge 0 4", 1);
    }

    private static void dayInItsRange() {
        edges.sentence("13: Throws IllegalArgumentException if day is not 0 to 119");
        edges.range(CHAIN, "receipt 1 # 0", 0, 119, Edges.ARGUMENT);
        edges.range(Starts.LAST_DAY, "receipt 1 # 0", 0, 119, Edges.ARGUMENT);
        edges.answers(CHAIN + "charge 3 0 0 5 0; receipt 5 0 0", "ofCharge 0 4", 1);
        edges.answers(CHAIN + "119 * day; charge 3 0 0 5 0; receipt 5 119 0", "ofCharge 0 4", 1);
    }

    private static void textInItsRange() {
        edges.sentence("13: Throws IllegalArgumentException if text is not 0 to 9");
        edges.range(CHAIN, "receipt 1 0 #", 0, 9, Edges.ARGUMENT);
        edges.range(Starts.BUSY, "receipt 1 0 #", 0, 9, Edges.ARGUMENT);
        edges.sentence("RECEIPTS, CHARGES: a TEXT, 0 to 9");
        edges.answers(CHAIN + "charge 3 0 0 1 9; receipt 1 0 9; receipt 1 0 8", "score 0 0", 60, "score 0 1", 40);
        edges.answers(CHAIN + "charge 3 0 0 1 0; receipt 1 0 0; receipt 1 0 1", "score 0 0", 60, "score 0 1", 40);
    }

    private static void receiptsAreThirty() {
        edges.sentence("13: Throws IllegalStateException if there are 30; RECEIPTS: at most 30, numbered from 0");
        edges.answers(CHAIN + "receipt 1 0 0", "many 8", 1, "ofReceipt 0", -1);
        edges.answers(CHAIN + "29 * receipt 5000 0 0; charge 3 0 0 7 0", "ofReceipt 29", Edges.INDEX,
                "receipt 7 0 0", 0, "ofReceipt 29", 0, "ofCharge 0 5", 29, "many 8", 30);
        edges.answers(CHAIN + "28 * receipt 5000 0 0", "receipt 1 0 0", -1, "receipt 1 0 0", -1, "many 8", 30);
        edges.refused(CHAIN + "30 * receipt 5000 0 0", "receipt 1 0 0", Edges.STATE);
        edges.refused(CHAIN + "30 * receipt 5000 0 0; charge 3 0 0 1 0", "receipt 1 0 0", Edges.STATE);
        edges.refused(Starts.full(), "receipt 700 0 0", Edges.STATE);
    }

    private static void namedFirst() {
        edges.sentence("13: if there are 30, and something else is wrong: what is named first");
        edges.refused(CHAIN + "30 * receipt 5000 0 0", "receipt 0 0 0", Edges.ARGUMENT);
        edges.refused(CHAIN + "30 * receipt 5000 0 0", "receipt 10000 0 0", Edges.ARGUMENT);
        edges.refused(CHAIN + "30 * receipt 5000 0 0", "receipt 1 -1 0", Edges.ARGUMENT);
        edges.refused(CHAIN + "30 * receipt 5000 0 0", "receipt 1 120 0", Edges.ARGUMENT);
        edges.refused(CHAIN + "30 * receipt 5000 0 0", "receipt 1 0 -1", Edges.ARGUMENT);
        edges.refused(CHAIN + "30 * receipt 5000 0 0", "receipt 1 0 10", Edges.ARGUMENT);
    }

    private static void tellsTheCharge() {
        edges.sentence("13: Returns the CHARGE with which it is MATCHED; NONE, if with none.");
        edges.answers(CHAIN, "receipt 1 0 0", -1);
        edges.answers(CHAIN + "charge 3 0 0 500 0; charge 3 0 0 100 0", "receipt 100 0 0", 1, "receipt 500 0 0", 0,
                "receipt 100 0 0", -1);
        edges.sentence("13: also when it is APPROVED at once");
        edges.answers(CHAIN + "charge 0 0 0 100 0", "receipt 100 0 0", 0, "ofCharge 0 4", 2);
        edges.answers(CHAIN + "29 * charge 3 0 0 10 0; charge 3 0 0 100 0", "receipt 100 0 0", 29);
    }

    private static void amountsDifferByTen() {
        edges.sentence("RECEIPTS: their AMOUNTS differ by 10 at most");
        edges.answers(HUNDRED, "wouldMatch 110 5 0", 0, "receipt 110 5 0", 0);
        edges.answers(HUNDRED, "wouldMatch 111 5 0", -1, "receipt 111 5 0", -1);
        edges.answers(HUNDRED, "wouldMatch 109 5 0", 0, "receipt 109 5 0", 0);
        edges.answers(HUNDRED, "wouldMatch 90 5 0", 0, "receipt 90 5 0", 0);
        edges.answers(HUNDRED, "wouldMatch 89 5 0", -1, "receipt 89 5 0", -1);
        edges.answers(HUNDRED, "wouldMatch 91 5 0", 0, "receipt 91 5 0", 0);
        edges.sentence("RECEIPTS: the same TEXT does not make up for a greater difference");
        edges.answers(HUNDRED, "receipt 111 5 4", -1, "receipt 89 5 4", -1, "receipt 100 9 4", -1);
    }

    private static void daysDifferByThree() {
        edges.sentence("RECEIPTS: their DAYS (differ) by 3 at most");
        edges.answers(HUNDRED, "wouldMatch 100 8 0", 0, "receipt 100 8 0", 0);
        edges.answers(HUNDRED, "wouldMatch 100 9 0", -1, "receipt 100 9 0", -1);
        edges.answers(HUNDRED, "wouldMatch 100 7 0", 0, "receipt 100 7 0", 0);
        edges.answers(HUNDRED, "wouldMatch 100 2 0", 0, "receipt 100 2 0", 0);
        edges.answers(HUNDRED, "wouldMatch 100 1 0", -1, "receipt 100 1 0", -1);
        edges.answers(HUNDRED, "wouldMatch 100 3 0", 0, "receipt 100 3 0", 0);
        edges.sentence("RECEIPTS: both differ as much as they may, and the TEXT too");
        edges.answers(HUNDRED, "receipt 110 8 0", 0, "score 0 0", 5);
        edges.answers(HUNDRED, "receipt 90 2 0", 0, "score 0 0", 5);
        edges.sentence("RECEIPTS: it is the DAY of the RECEIPT, and not that on which it came");
        edges.answers(HUNDRED + "; 14 * day", "receipt 100 19 0", -1, "receipt 100 5 0", 0);
    }

    private static void onlyOpenAndFreeOnes() {
        edges.sentence("RECEIPTS: An OPEN CHARGE and a FREE RECEIPT GO TOGETHER");
        edges.answers(HUNDRED + "; receipt 100 5 4", "receipt 100 5 4", -1, "charge 3 0 0 100 4", 1, "ofCharge 1 5", 1);
        edges.answers(HUNDRED + "; receipt 100 5 4; approve 0 2", "receipt 100 5 4", -1);
        edges.answers(HUNDRED + "; receipt 100 5 4; refuse 0 2", "receipt 100 5 4", -1);
        edges.answers(HUNDRED + "; receipt 100 5 4; refuse 0 2; settle 0 true", "receipt 100 5 4", -1,
                "charge 3 0 0 100 4", 1, "ofCharge 1 5", 1);
        edges.answers(HUNDRED + "; 15 * day", "ofCharge 0 4", 3, "receipt 100 5 4", -1);
        edges.answers(HUNDRED + "; 14 * day", "ofCharge 0 4", 0, "receipt 100 5 4", 0);
    }

    private static void neverSplitFromEachOther() {
        edges.sentence("RECEIPTS: GO TOGETHER, if they were never SPLIT from each other");
        edges.answers(HUNDRED + "; receipt 100 5 4; split 0", "ofCharge 0 5", -1, "charge 3 0 0 500 0", 1,
                "ofCharge 0 5", -1, "receipt 900 0 0", -1, "ofCharge 0 5", -1, "day", 0, "ofCharge 0 5", -1);
        edges.answers(HUNDRED + "; receipt 100 5 4; split 0; receipt 100 5 4", "ofCharge 0 5", 1, "split 0", 0,
                "ofCharge 0 5", -1, "ofReceipt 0", -1, "ofReceipt 1", -1, "charge 3 0 0 100 4", 1, "ofCharge 1 5", 0,
                "split 1", 1, "ofCharge 1 5", 1, "ofCharge 0 5", -1);
        edges.sentence("RECEIPTS: SPLIT from each other, with the greatest numbers");
        edges.answers(CHAIN + "29 * charge 2 0 0 200 0; charge 3 0 0 100 0; 29 * receipt 5000 0 0; receipt 100 0 0",
                "split 29", 0, "ofReceipt 29", -1, "many 9", 30, "wouldMatch 100 0 0", 29);
    }

    private static void scoreOfAChargeAndReceipt() {
        edges.sentence("20: Throws IndexOutOfBoundsException if there is no such CHARGE, or RECEIPT");
        edges.index(CHAIN + "receipt 1 0 0", "score # 0", 0);
        edges.index(CHAIN + "charge 3 0 0 1 0", "score 0 #", 0);
        edges.index(Starts.BUSY, "score # 5", 6);
        edges.index(Starts.BUSY, "score 5 #", 6);
        edges.index(Starts.full(), "score # 29", 30);
        edges.index(Starts.full(), "score 29 #", 30);
        edges.refused(Starts.BUSY, "score 6 6", Edges.INDEX);
    }

    private static void scoreAtTheEdges() {
        edges.sentence("RECEIPTS: SCORE: 40, less 2 for each 1 of AMOUNTS, less 5 for each DAY, and 20 more with TEXT");
        int[][] amountsDaysTextsAndScores = {{100, 5, 4, 60}, {100, 5, 3, 40}, {101, 5, 3, 38}, {99, 5, 3, 38},
            {110, 5, 3, 20}, {90, 5, 3, 20}, {100, 6, 3, 35}, {100, 4, 3, 35}, {100, 8, 3, 25}, {100, 2, 3, 25},
            {110, 8, 4, 25}, {90, 2, 4, 25}, {110, 8, 3, 5}, {90, 2, 3, 5}};
        for (int[] due : amountsDaysTextsAndScores) {
            String receipt = "; receipt " + due[0] + " " + due[1] + " " + due[2];
            edges.answers(HUNDRED + receipt, "score 0 0", due[3], "ofReceipt 0", 0);
        }
        edges.sentence("20: if their AMOUNTS and DAYS are as those that GO TOGETHER; NONE otherwise");
        int[][] tooFar = {{111, 5, 4}, {89, 5, 4}, {100, 9, 4}, {100, 1, 4}, {111, 9, 4}, {9999, 119, 0}, {1, 0, 9}};
        for (int[] due : tooFar) {
            String receipt = "; receipt " + due[0] + " " + due[1] + " " + due[2];
            edges.answers(HUNDRED + receipt, "score 0 0", -1, "ofReceipt 0", -1);
        }
    }

    private static void scoreWhateverTheyAreNow() {
        edges.sentence("20: their SCORE (whatever they are now)");
        String two = HUNDRED + "; receipt 100 5 4; receipt 102 6 3";
        String[] states = {"", "; approve 0 2", "; refuse 0 2", "; refuse 0 2; settle 0 true", "; split 0",
            "; split 0; 15 * day"};
        for (String state : states) {
            edges.answers(two + state, "score 0 0", 60, "score 0 1", 31);
        }
    }

    private static void greatestScore() {
        edges.sentence("RECEIPTS: of all these the pair with the greatest SCORE");
        String apart = CHAIN + "charge 3 0 0 100 1; charge 3 0 0 109 2";
        edges.answers(apart, "receipt 104 0 3", 0);
        edges.answers(apart, "receipt 105 0 3", 1);
        edges.answers(apart, "receipt 100 0 2", 1);
        edges.answers(CHAIN + "charge 3 0 0 105 1; day; charge 3 0 0 107 1", "receipt 105 1 0", 1);
        edges.answers(CHAIN + "charge 3 0 0 105 1; day; charge 3 0 0 108 1", "receipt 105 1 0", 0);
        edges.answers(CHAIN + "charge 3 0 0 108 1; day; charge 3 0 0 105 1", "receipt 105 1 0", 1);
        edges.answers(CHAIN + "receipt 103 0 0; receipt 101 0 0; charge 3 0 0 100 1", "ofCharge 0 5", 1);
    }

    private static void smallestCharge() {
        edges.sentence("RECEIPTS: of several that with the smallest CHARGE");
        edges.answers(CHAIN + "charge 3 0 0 101 1; charge 3 0 0 99 1", "receipt 100 0 1", 0, "receipt 100 0 1", 1);
        edges.answers(CHAIN + "3 * charge 3 0 0 100 1", "receipt 100 0 1", 0, "receipt 100 0 1", 1,
                "receipt 100 0 1", 2);
        edges.sentence("RECEIPTS: the SCORES are alike, though in other ways: 10 by AMOUNTS, or 2 DAYS");
        edges.answers(CHAIN + "charge 3 0 0 105 1; 2 * day; charge 3 0 0 100 1", "receipt 105 2 1", 0);
        edges.answers(CHAIN + "charge 3 0 0 100 1; charge 3 0 0 110 2", "receipt 100 0 2", 0);
    }

    private static void smallestReceipt() {
        edges.sentence("RECEIPTS: of several that with the smallest CHARGE, then RECEIPT");
        edges.answers(CHAIN + "receipt 101 0 1; receipt 99 0 1; charge 3 0 0 100 1", "ofCharge 0 5", 0,
                "charge 3 0 0 100 1", 1, "ofCharge 1 5", 1);
        edges.answers(CHAIN + "3 * receipt 100 0 1; charge 3 0 0 100 1; charge 3 0 0 100 1", "ofCharge 0 5", 0,
                "ofCharge 1 5", 1, "ofReceipt 2", -1);
        edges.answers(CHAIN + "3 * receipt 100 0 1; 2 * charge 3 0 0 100 1; split 0", "ofCharge 0 5", 2,
                "ofReceipt 0", -1, "charge 3 0 0 90 2", 2, "ofCharge 2 5", 0);
    }

    private static void asLongAsTwoGoTogether() {
        edges.sentence("RECEIPTS: as long as two GO TOGETHER: two pairs are MATCHED by one call");
        edges.answers(CHAIN + "charge 3 0 0 100 0; receipt 100 0 0; charge 3 0 0 110 0; receipt 90 0 0", "many 4", 1,
                "split 0", 1, "many 4", 2, "ofCharge 0 5", 1, "ofCharge 1 5", 0, "ofPerson 3 1", 6, "ofPerson 3 2", 0);
        edges.sentence("RECEIPTS: Whenever a CHARGE or a RECEIPT came: one pair, or none, by one call");
        edges.answers(CHAIN + "charge 3 0 0 100 0; charge 3 0 0 100 0", "receipt 100 0 0", 0, "many 4", 1, "many 3", 1);
    }

    private static void pointUpToSevenDays() {
        edges.sentence("RECEIPTS: if the CHARGE came 7 DAYS ago or less, its PERSON gets a POINT");
        String charge = CHAIN + "charge 3 0 0 100 0; ";
        edges.answers(charge + "receipt 100 0 0", "ofPerson 3 2", 1, "ofPerson 2 2", 0);
        edges.answers(charge + "6 * day; receipt 100 0 0", "ofPerson 3 2", 1);
        edges.answers(charge + "7 * day; receipt 100 0 0", "ofPerson 3 2", 1, "ofPerson 3 1", 5);
        edges.answers(charge + "8 * day; receipt 100 0 0", "ofPerson 3 2", 0, "ofPerson 3 1", 4, "ofCharge 0 4", 1);
        edges.answers(charge + "14 * day; receipt 100 0 0", "ofPerson 3 2", 0, "ofCharge 0 4", 1);
    }

    private static void threePointsAreTrust() {
        edges.sentence("RECEIPTS: with 3 POINTS TRUST is 1 more, and POINTS are 0");
        edges.answers(CHAIN + "2 * charge 3 0 0 100 0; 2 * receipt 100 0 0", "ofPerson 3 2", 2, "ofPerson 3 1", 5,
                "charge 3 0 0 100 0", 2, "receipt 100 0 0", 2, "ofPerson 3 2", 0, "ofPerson 3 1", 6,
                "charge 3 0 0 100 0", 3, "receipt 100 0 0", 3, "ofPerson 3 2", 1, "ofPerson 3 1", 6);
        edges.sentence("RECEIPTS: a POINT also where the RECEIPT was there ahead of the CHARGE");
        edges.answers(CHAIN + "receipt 100 0 0", "charge 3 0 0 100 0", 0, "ofPerson 3 2", 1);
        edges.sentence("RECEIPTS: POINTS are of each PERSON");
        edges.answers(CHAIN + "charge 3 0 0 100 0; charge 2 0 0 100 0; charge 1 0 0 100 0; 3 * receipt 100 0 0",
                "ofPerson 3 2", 1, "ofPerson 2 2", 1, "ofPerson 1 2", 1, "ofPerson 1 1", 5);
    }

    private static void trustTenAtMost() {
        edges.sentence("RECEIPTS: TRUST is 1 more (10 at most), and POINTS are 0");
        String often = CHAIN + "28 * charge 3 0 0 100 0; ";
        edges.answers(often + "12 * receipt 100 0 0", "ofPerson 3 1", 9, "ofPerson 3 2", 0);
        edges.answers(often + "14 * receipt 100 0 0", "ofPerson 3 1", 9, "receipt 100 0 0", 14, "ofPerson 3 1", 10,
                "ofPerson 3 2", 0, "receipt 100 0 0", 15, "receipt 100 0 0", 16, "ofPerson 3 1", 10, "ofPerson 3 2", 2,
                "receipt 100 0 0", 17, "ofPerson 3 1", 10, "ofPerson 3 2", 0, "meanTrust", 6.25);
        edges.answers(often + "27 * receipt 100 0 0", "ofPerson 3 1", 10, "ofPerson 3 2", 0);
    }

    private static void ofReceiptOfAReceipt() {
        edges.sentence("19: Throws IndexOutOfBoundsException if there is no such RECEIPT");
        edges.index(Starts.EMPTY, "ofReceipt #", 0);
        edges.index(CHAIN + "receipt 1 0 0", "ofReceipt #", 1);
        edges.index(Starts.BUSY, "ofReceipt #", 6);
        edges.index(Starts.full(), "ofReceipt #", 30);
    }

    private static void ofAChargeTillTheyAreSplit() {
        edges.sentence("RECEIPTS: the RECEIPT is of that CHARGE (it is so till they are SPLIT)");
        String matched = HUNDRED + "; receipt 700 0 0; receipt 100 5 4";
        edges.answers(matched, "ofReceipt 1", 0, "ofReceipt 0", -1);
        edges.answers(matched + "; approve 0 2", "ofReceipt 1", 0);
        edges.answers(matched + "; refuse 0 2", "ofReceipt 1", 0);
        edges.answers(matched + "; refuse 0 2; settle 0 true", "ofReceipt 1", 0, "ofCharge 0 5", 1);
        edges.answers(matched + "; refuse 0 2; settle 0 false", "ofReceipt 1", 0, "ofCharge 0 5", 1);
        edges.answers(matched + "; 20 * day", "ofReceipt 1", 0);
        edges.sentence("19: NONE, if it is FREE.");
        edges.answers(matched + "; split 0", "ofReceipt 1", -1, "many 9", 2);
    }
}
