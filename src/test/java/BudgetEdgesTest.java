/** The bounds that promises 8 to 11, TAX, COST and BUDGETS name, sentence by sentence. */
public final class BudgetEdgesTest {
    private static final Edges edges = new Edges();
    private static final String CHAIN = Starts.CHAIN;

    public static void main(String[] args) {
        atFirst();
        planOfAKindAndPeriod();
        planInItsRange();
        carryOfAKind();
        carryInItsRange();
        rateOfALandAndKind();
        rateInItsRange();
        leftOfAKindAndPeriod();
        leftMayBeBelowZero();
        periodsOfThirtyDays();
        firstPeriodCarriesNothing();
        carryOfWhatIsLeft();
        carryOnlyAboveZero();
        mostThatCanBeLeft();
        taxIsCut();
        costByState();
        edges.end();
    }

    private static void atFirst() {
        edges.sentence("BUDGETS: a PLAN (0 at first), a CARRY (0); the RATE (0 at first)");
        edges.answers(Starts.EMPTY, "plan 0 0 5", 0, "plan 3 3 5", 0, "carry 0 5", 0, "carry 3 5", 0, "rate 0 0 5", 0,
                "rate 2 3 5", 0);
    }

    private static void planOfAKindAndPeriod() {
        edges.sentence("8: Throws IndexOutOfBoundsException if there is no such KIND, or PERIOD");
        edges.index(Starts.EMPTY, "plan # 3 5", 4);
        edges.index(Starts.EMPTY, "plan 3 # 5", 4);
        edges.index(Starts.BUSY, "plan # 0 5", 4);
        edges.index(Starts.BUSY, "plan 0 # 5", 4);
        edges.sentence("8: no such KIND, or PERIOD, and plan is not 0 to 99999: what is named first");
        edges.refused(CHAIN, "plan 4 0 100000", Edges.INDEX);
        edges.refused(CHAIN, "plan 0 -1 -1", Edges.INDEX);
        edges.refused(CHAIN, "plan 0 4 -1", Edges.INDEX);
    }

    private static void planInItsRange() {
        edges.sentence("8: Throws IllegalArgumentException if plan is not 0 to 99999");
        edges.range(Starts.EMPTY, "plan 1 2 #", 0, 99999, Edges.ARGUMENT, "left 1 2");
        edges.range(Starts.BUSY, "plan 0 0 #", 0, 99999, Edges.ARGUMENT, "plan 0 0 7");
        edges.sentence("8: Returns the one before.");
        edges.answers(Starts.EMPTY, "plan 1 2 99999", 0, "plan 1 2 99999", 99999, "plan 1 2 0", 99999, "plan 1 2 1", 0,
                "plan 2 1 3", 0, "plan 1 1 3", 0, "plan 2 2 3", 0, "plan 1 2 3", 1);
    }

    private static void carryOfAKind() {
        edges.sentence("9: Throws IndexOutOfBoundsException if there is no such KIND");
        edges.index(Starts.EMPTY, "carry # 5", 4);
        edges.index(Starts.BUSY, "carry # 5", 4);
        edges.sentence("9: no such KIND, and carry is not 0 to 100: what is named first");
        edges.refused(CHAIN, "carry 4 101", Edges.INDEX);
        edges.refused(CHAIN, "carry -1 -1", Edges.INDEX);
    }

    private static void carryInItsRange() {
        edges.sentence("9: Throws IllegalArgumentException if carry is not 0 to 100");
        edges.range("plan 2 0 100", "carry 2 #", 0, 100, Edges.ARGUMENT, "left 2 1");
        edges.range(Starts.BUSY, "carry 0 #", 0, 100, Edges.ARGUMENT, "carry 0 7");
        edges.sentence("9: Returns the one before.");
        edges.answers(Starts.EMPTY, "carry 2 100", 0, "carry 2 100", 100, "carry 2 0", 100, "carry 2 1", 0,
                "carry 1 3", 0, "carry 3 3", 0, "carry 2 3", 1);
    }

    private static void rateOfALandAndKind() {
        edges.sentence("10: Throws IndexOutOfBoundsException if there is no such LAND, or KIND");
        edges.index(Starts.EMPTY, "rate # 3 5", 3);
        edges.index(Starts.EMPTY, "rate 2 # 5", 4);
        edges.index(Starts.BUSY, "rate # 0 5", 3);
        edges.index(Starts.BUSY, "rate 0 # 5", 4);
        edges.sentence("10: no such LAND, or KIND, and rate is not 0 to 30: what is named first");
        edges.refused(CHAIN, "rate 3 0 31", Edges.INDEX);
        edges.refused(CHAIN, "rate -1 0 -1", Edges.INDEX);
        edges.refused(CHAIN, "rate 0 4 31", Edges.INDEX);
        edges.refused(CHAIN, "rate 0 -1 -1", Edges.INDEX);
    }

    private static void rateInItsRange() {
        edges.sentence("10: Throws IllegalArgumentException if rate is not 0 to 30");
        edges.range(Starts.EMPTY, "rate 2 3 #", 0, 30, Edges.ARGUMENT, "rate 2 3 7");
        edges.range(Starts.BUSY, "rate 0 0 #", 0, 30, Edges.ARGUMENT, "rate 0 0 7");
        edges.sentence("10: Returns the one before.");
        edges.answers(Starts.EMPTY, "rate 2 1 30", 0, "rate 2 1 30", 30, "rate 2 1 0", 30, "rate 2 1 1", 0,
                "rate 1 2 3", 0, "rate 2 2 3", 0, "rate 1 1 3", 0, "rate 2 1 3", 1);
        edges.sentence("10: their RATE from now on (for all CHARGES)");
        edges.answers(CHAIN + "charge 3 0 1 130 0", "ofCharge 0 7", 0, "rate 1 0 30", 0, "ofCharge 0 7", 30,
                "rate 0 0 20", 0, "rate 1 1 20", 0, "ofCharge 0 7", 30, "rate 1 0 0", 30, "ofCharge 0 7", 0);
    }

    private static void leftOfAKindAndPeriod() {
        edges.sentence("11: Throws IndexOutOfBoundsException if there is no such KIND, or PERIOD");
        edges.index(Starts.EMPTY, "left # 0", 4);
        edges.index(Starts.EMPTY, "left 0 #", 4);
        edges.index(Starts.LAST_DAY, "left # 3", 4);
        edges.index(Starts.LAST_DAY, "left 3 #", 4);
        edges.refused(CHAIN, "left -1 4", Edges.INDEX);
    }

    private static void leftMayBeBelowZero() {
        edges.sentence("11: Returns what is LEFT (it can be below 0).");
        edges.answers(CHAIN + "plan 0 0 500; charge 3 0 0 500 0", "left 0 0", 0, "plan 0 0 499", 500, "left 0 0", -1,
                "plan 0 0 0", 499, "left 0 0", -500, "plan 0 0 501", 0, "left 0 0", 1);
    }

    private static void periodsOfThirtyDays() {
        edges.sentence("Terms: DAY / 30 is its PERIOD; BUDGETS: CHARGES that came on a DAY of it");
        int[][] daysAndPeriods = {{0, 0}, {29, 0}, {30, 1}, {59, 1}, {60, 2}, {89, 2}, {90, 3}, {119, 3}};
        for (int[] due : daysAndPeriods) {
            String start = CHAIN + due[0] + " * day; charge 3 0 0 100 0";
            for (int period = 0; period < 4; period++) {
                edges.answers(start, "left 0 " + period, period == due[1] ? 99899 : 99999);
            }
        }
    }

    private static void firstPeriodCarriesNothing() {
        edges.sentence("BUDGETS: LEFT: the PLAN, and, but for PERIOD 0, CARRY of 100 of what is LEFT ahead");
        edges.answers("plan 1 0 500; plan 1 3 70; carry 1 100", "left 1 0", 500, "left 1 1", 500, "left 1 2", 500,
                "left 1 3", 570, "left 0 3", 0);
    }

    private static void carryOfWhatIsLeft() {
        edges.sentence("BUDGETS: LEFT * CARRY / 100, cut");
        edges.answers("plan 1 0 99; carry 1 1", "left 1 1", 0, "plan 1 0 100", 99, "left 1 1", 1, "plan 1 0 199", 100,
                "left 1 1", 1, "plan 1 0 200", 199, "left 1 1", 2, "carry 1 0", 1, "left 1 1", 0, "carry 1 99", 0,
                "left 1 1", 198, "carry 1 100", 99, "left 1 1", 200);
    }

    private static void carryOnlyAboveZero() {
        edges.sentence("BUDGETS: LEFT * CARRY / 100, if that is above 0");
        String spent = CHAIN + "charge 3 0 0 300 0; plan 0 1 40; carry 0 100";
        edges.answers(spent + "; plan 0 0 299", "left 0 0", -1, "left 0 1", 40);
        edges.answers(spent + "; plan 0 0 300", "left 0 0", 0, "left 0 1", 40);
        edges.answers(spent + "; plan 0 0 301", "left 0 0", 1, "left 0 1", 41);
        edges.answers(spent + "; plan 0 0 0; plan 0 1 0; plan 0 2 5; plan 0 3 0", "left 0 0", -300, "left 0 1", 0,
                "left 0 2", 5, "left 0 3", 5);
    }

    private static void mostThatCanBeLeft() {
        edges.sentence("BUDGETS: the greatest PLANS, all of which is carried");
        edges.answers(CHAIN + "carry 0 100", "left 0 0", 99999, "left 0 1", 199998, "left 0 2", 299997,
                "left 0 3", 399996, "leftWith 0 3", 399996);
    }

    private static void taxIsCut() {
        edges.sentence("TAX of a CHARGE: AMOUNT * RATE / (100 + RATE), cut, with the RATE, 0 to 30");
        int[][] amountsRatesAndTaxes = {{1, 30, 0}, {4, 30, 0}, {5, 30, 1}, {9999, 30, 2307}, {9999, 0, 0}, {1, 0, 0},
            {100, 1, 0}, {101, 1, 1}, {201, 1, 1}, {202, 1, 2}, {9999, 1, 99}, {9999, 29, 2247}, {130, 30, 30},
            {129, 30, 29}};
        for (int[] due : amountsRatesAndTaxes) {
            edges.answers(CHAIN + "charge 3 0 2 " + due[0] + " 0; rate 2 0 " + due[1], "ofCharge 0 7", due[2],
                    "ofCharge 0 8", due[0], "receipt " + due[0] + " 0 0", 0, "ofCharge 0 7", due[2],
                    "ofCharge 0 8", due[0] - due[2]);
        }
    }

    private static void costByState() {
        edges.sentence("TAX: Its COST: AMOUNT less TAX, if MATCHED or APPROVED; 0, if REPAID; otherwise AMOUNT");
        String open = CHAIN + "plan 0 0 1000; rate 0 0 30; charge 3 0 0 260 0";
        edges.answers(open, "ofCharge 0 8", 260, "left 0 0", 740, "many 12", 260);
        String matched = open + "; receipt 260 0 0";
        edges.answers(matched, "ofCharge 0 8", 200, "left 0 0", 800, "many 12", 200);
        edges.answers(matched + "; approve 0 2", "ofCharge 0 4", 2, "ofCharge 0 8", 200, "left 0 0", 800,
                "many 12", 200);
        edges.answers(matched + "; refuse 0 2", "ofCharge 0 4", 4, "ofCharge 0 8", 260, "left 0 0", 740,
                "many 12", 260);
        edges.answers(matched + "; refuse 0 2; settle 0 true", "ofCharge 0 4", 3, "ofCharge 0 8", 0, "left 0 0", 1000,
                "many 12", 0);
        edges.answers(matched + "; refuse 0 2; settle 0 false", "ofCharge 0 8", 200, "left 0 0", 800);
        edges.answers(matched + "; split 0", "ofCharge 0 8", 260, "left 0 0", 740);
    }
}
