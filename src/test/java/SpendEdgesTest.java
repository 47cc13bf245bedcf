/** The bounds that promise 7 and A PERSON MAY SPEND name, sentence by sentence. */
public final class SpendEdgesTest {
    private static final Edges edges = new Edges();
    private static final String CHAIN = Starts.CHAIN;

    public static void main(String[] args) {
        maySpendOfSomebody();
        maySpendOfAKindInALand();
        mayBeBelowZero();
        tripThatHasThisDay();
        tripOfThatPersonToThatLand();
        firstTripByNumbers();
        extraLessItsCharges();
        limitByTrust();
        limitIsCut();
        todayAndNineDaysBefore();
        chargesOfNoTrip();
        repaidDoesNotCount();
        edges.end();
    }

    private static void maySpendOfSomebody() {
        edges.sentence("7: Throws IndexOutOfBoundsException if there is no such PERSON");
        edges.index(Starts.EMPTY, "maySpend # 0 0", 0);
        edges.index(CHAIN, "maySpend # 0 0", 4);
        edges.index(Starts.full(), "maySpend # 0 0", 8);
    }

    private static void maySpendOfAKindInALand() {
        edges.sentence("7: Throws IndexOutOfBoundsException if there is no such KIND, or LAND");
        edges.index(CHAIN, "maySpend 3 # 0", 4);
        edges.index(CHAIN, "maySpend 3 0 #", 3);
        edges.index(Starts.LAST_DAY, "maySpend 3 3 #", 3);
        edges.refused(Starts.EMPTY, "maySpend -1 4 3", Edges.INDEX);
    }

    private static void mayBeBelowZero() {
        edges.sentence("7: Returns how much the PERSON MAY SPEND (it can be below 0).");
        edges.answers(CHAIN + "limit 3 0 100; charge 3 0 0 100 0", "maySpend 3 0 0", 0, "limit 3 0 99", 100,
                "maySpend 3 0 0", -1, "limit 3 0 0", 99, "maySpend 3 0 0", -100, "limit 3 0 101", 0,
                "maySpend 3 0 0", 1);
        edges.answers(CHAIN + "charge 3 0 0 9999 0; limit 3 0 0", "maySpend 3 0 0", -9999);
    }

    private static void tripThatHasThisDay() {
        edges.sentence("TRIPS: a TRIP of that PERSON to that LAND that has this DAY: from its first to its last");
        edges.answers(CHAIN + "trip 3 1 2 4 700; day", "maySpend 3 0 1", 9999, "day", 0, "maySpend 3 0 1", 700,
                "day", 0, "maySpend 3 0 1", 700, "day", 0, "maySpend 3 0 1", 700, "day", 0, "maySpend 3 0 1", 9999);
        edges.answers(CHAIN + "trip 3 1 2 2 700; day", "maySpend 3 0 1", 9999, "day", 0, "maySpend 3 0 1", 700,
                "day", 0, "maySpend 3 0 1", 9999);
        edges.answers(CHAIN + "trip 3 1 0 0 700", "maySpend 3 0 1", 700, "day", 0, "maySpend 3 0 1", 9999);
        edges.answers(CHAIN + "trip 3 1 119 119 700; 118 * day", "maySpend 3 0 1", 9999, "day", 0,
                "maySpend 3 0 1", 700);
        edges.answers(CHAIN + "trip 3 1 0 119 700; 119 * day", "maySpend 3 0 1", 700);
        edges.answers(CHAIN + "3 * day; trip 3 1 0 2 700; trip 3 1 0 3 800", "maySpend 3 0 1", 800);
    }

    private static void tripOfThatPersonToThatLand() {
        edges.sentence("TRIPS: a TRIP of that PERSON to that LAND, and for each KIND");
        edges.answers(CHAIN + "trip 3 1 0 9 700", "maySpend 3 0 0", 9999, "maySpend 3 0 1", 700, "maySpend 3 0 2", 9999,
                "maySpend 2 0 1", 9999, "maySpend 3 3 1", 700, "maySpend 3 3 0", 0);
        edges.answers(CHAIN + "trip 3 0 0 9 600; trip 3 2 0 9 800", "maySpend 3 0 0", 600, "maySpend 3 0 1", 9999,
                "maySpend 3 0 2", 800);
    }

    private static void firstTripByNumbers() {
        edges.sentence("TRIPS: the first such one by numbers");
        edges.answers(CHAIN + "trip 3 1 2 9 100; trip 3 1 1 9 9999; trip 3 1 0 9 300", "maySpend 3 0 1", 300,
                "day", 0, "maySpend 3 0 1", 9999, "day", 0, "maySpend 3 0 1", 100);
        edges.answers(CHAIN + "2 * trip 3 1 0 9 100; charge 3 0 1 60 0; charge 3 0 1 40 1", "ofCharge 0 6", 0,
                "ofCharge 1 6", 0, "maySpend 3 0 1", 0);
    }

    private static void extraLessItsCharges() {
        edges.sentence("TRIPS: its EXTRA, less the AMOUNTS of CHARGES of that TRIP, of whatever KIND and DAY");
        edges.answers(CHAIN + "plan 3 0 999; trip 3 1 0 30 700; charge 3 0 1 300 0; charge 3 3 1 350 1; 13 * day",
                "maySpend 3 0 1", 50, "day", 0, "maySpend 3 2 1", 50, "charge 3 0 1 50 2", 2, "maySpend 3 0 1", 0);
        edges.answers(CHAIN + "trip 3 1 0 9 0", "maySpend 3 0 1", 0, "charge 3 0 1 1 0", Edges.STATE,
                "charge 3 0 0 1 0", 0, "maySpend 3 0 1", 0);
    }

    private static void limitByTrust() {
        edges.sentence("TRIPS: otherwise LIMIT * (5 + TRUST) / 10, with TRUST 0, 5 and 10");
        edges.answers(CHAIN, "maySpend 3 0 0", 9999);
        edges.answers(CHAIN + "3 * charge 3 0 0 1 0; 15 * day", "ofPerson 3 1", 0, "maySpend 3 0 0", 4999,
                "charge 3 0 0 5000 0", Edges.STATE, "charge 3 0 0 4999 0", 3);
        edges.answers(CHAIN + "15 * charge 0 0 0 1 0; 15 * receipt 1 0 0; 10 * day", "ofPerson 0 1", 10,
                "maySpend 0 0 0", 14998, "charge 0 0 0 9999 0", 15, "maySpend 0 0 0", 4999, "limit 0 0 0", 9999,
                "maySpend 0 0 0", -9999);
    }

    private static void limitIsCut() {
        edges.sentence("Terms: / is cut: LIMIT * (5 + TRUST) / 10");
        String less = CHAIN + "charge 3 0 0 1 0; 15 * day";
        edges.answers(less + "; limit 3 0 1", "ofPerson 3 1", 3, "maySpend 3 0 0", 0);
        edges.answers(less + "; limit 3 0 9", "maySpend 3 0 0", 7);
        edges.answers(less + "; limit 3 0 10", "maySpend 3 0 0", 8);
    }

    private static void todayAndNineDaysBefore() {
        edges.sentence("TRIPS: less the AMOUNTS of CHARGES of today and the 9 DAYS before it");
        String spent = CHAIN + "charge 3 0 0 100 0; receipt 100 0 0";
        edges.answers(spent, "maySpend 3 0 0", 9899);
        edges.answers(spent + "; 8 * day", "maySpend 3 0 0", 9899, "day", 0, "maySpend 3 0 0", 9899, "day", 0,
                "maySpend 3 0 0", 9999);
        edges.sentence("TRIPS: CHARGES of that PERSON and KIND");
        edges.answers(spent, "maySpend 2 0 0", 9999, "maySpend 3 1 0", 0, "maySpend 3 0 2", 9899);
    }

    private static void chargesOfNoTrip() {
        edges.sentence("TRIPS: less the AMOUNTS of CHARGES that are of no TRIP");
        edges.answers(CHAIN + "trip 3 1 0 0 700; charge 3 0 1 700 0", "maySpend 3 0 0", 9999, "maySpend 3 0 1", 0,
                "day", 0, "maySpend 3 0 1", 9999);
        edges.answers(CHAIN + "charge 3 0 1 700 0; trip 3 1 0 9 500", "maySpend 3 0 1", 500, "maySpend 3 0 0", 9299);
    }

    private static void repaidDoesNotCount() {
        edges.sentence("TRIPS: CHARGES that are REPAID do not count there");
        String disputed = "; receipt 300 0 0; refuse 0 2";
        edges.answers(CHAIN + "charge 3 0 0 300 0" + disputed, "maySpend 3 0 0", 9699, "settle 0 true", 3,
                "maySpend 3 0 0", 9999);
        edges.answers(CHAIN + "trip 3 1 0 9 500; charge 3 0 1 300 0" + disputed, "maySpend 3 0 1", 200,
                "settle 0 true", 3, "maySpend 3 0 1", 500, "maySpend 3 0 0", 9999);
        edges.answers(CHAIN + "charge 3 0 0 300 0" + disputed, "settle 0 false", 1, "maySpend 3 0 0", 9699,
                "approve 0 2", 2, "maySpend 3 0 0", 9699);
    }
}
