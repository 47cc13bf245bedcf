/** The bounds that promises 1 to 6 and PEOPLE name, sentence by sentence. */
public final class PeopleEdgesTest {
    private static final Edges edges = new Edges();
    private static final String CHAIN = Starts.CHAIN;
    private static final String EIGHT = Starts.CHAIN + "4 * person 3";

    public static void main(String[] args) {
        aNewDeskHasNobody();
        aNewDeskHasNothing();
        daysAtFirst();
        peopleAreEight();
        bossIsThereOrNone();
        peopleAtFirst();
        limitOfSomebody();
        limitOfAKind();
        limitInItsRange();
        limitTellsTheOneBefore();
        awayOfSomebody();
        awayByAnother();
        awayRefusedChangesNothing();
        awayUpToADay();
        awayWithTheLastDay();
        awayBelowToday();
        awayTellsWhatWas();
        tripsAreEight();
        tripOfSomebody();
        tripFromAndTo();
        tripExtra();
        ofPersonOfSomebody();
        ofPersonWhat();
        ofPersonOnAFullDesk();
        lastOfFiveHundredCalls();
        edges.end();
    }

    private static void aNewDeskHasNobody() {
        edges.sentence("1: Creates a desk without PEOPLE.");
        edges.answers(Starts.EMPTY, "many 0", 0, "meanTrust", 0.0);
        String[] calls = {"person 0", "limit 0 0 0", "away 0 0 0", "trip 0 0 0 0 0", "ofPerson 0 0", "maySpend 0 0 0",
            "charge 0 0 0 1 0", "trustBehind 0 0"};
        for (String call : calls) {
            edges.refused(Starts.EMPTY, call, Edges.INDEX);
        }
    }

    private static void aNewDeskHasNothing() {
        edges.sentence("Terms: a desk with nobody and nothing in it");
        for (int what = 0; what <= 12; what++) {
            edges.answers(Starts.EMPTY, "many " + what, 0);
        }
        String[] calls = {"split 0", "approve 0 0", "refuse 0 0", "settle 0 true", "settle 0 false", "ofCharge 0 0",
            "ofReceipt 0", "score 0 0"};
        for (String call : calls) {
            edges.refused(Starts.EMPTY, call, Edges.INDEX);
            edges.refused(CHAIN, call, Edges.INDEX);
        }
        edges.answers(Starts.EMPTY, "left 0 0", 0, "left 3 3", 0, "leftWith 0 0", 0, "leftWith 3 3", 0,
                "wouldMatch 1 0 0", -1, "receipt 1 0 0", -1, "day", 0);
    }

    private static void daysAtFirst() {
        edges.sentence("Terms: it is DAY 0 at first");
        edges.answers(Starts.EMPTY, "many 10", 0, "day", 0, "many 10", 1);
    }

    private static void peopleAreEight() {
        edges.sentence("2: Throws IllegalStateException if there are 8; PEOPLE: at most 8, numbered from 0");
        edges.answers(Starts.EMPTY, "person -1", 0, "many 0", 1);
        edges.answers("6 * person -1", "person -1", 6, "person -1", 7, "many 0", 8);
        edges.refused("8 * person -1", "person -1", Edges.STATE);
        edges.refused(EIGHT, "person -1", Edges.STATE);
        edges.refused(EIGHT, "person 0", Edges.STATE);
        edges.refused(EIGHT, "person 7", Edges.STATE);
        edges.sentence("2: if there are 8, and no such PERSON: what is named first");
        edges.refused(EIGHT, "person 8", Edges.INDEX);
        edges.refused(EIGHT, "person -2", Edges.INDEX);
    }

    private static void bossIsThereOrNone() {
        edges.sentence("2: Throws IndexOutOfBoundsException if there is no such PERSON (but NONE)");
        edges.range(Starts.EMPTY, "person #", -1, -1, Edges.INDEX);
        edges.range("person -1", "person #", -1, 0, Edges.INDEX, "ofPerson 1 0");
        edges.range("2 * person -1", "person #", -1, 1, Edges.INDEX, "ofPerson 2 0");
        edges.range("7 * person -1", "person #", -1, 6, Edges.INDEX, "ofPerson 7 0");
    }

    private static void peopleAtFirst() {
        edges.sentence("PEOPLE: TRUST, 5 at first, POINTS (0), for each KIND a LIMIT (0), not AWAY");
        edges.answers(EIGHT, "ofPerson 7 1", 5, "ofPerson 7 2", 0, "ofPerson 7 3", 0, "ofPerson 7 4", 0,
                "ofPerson 7 5", 0, "ofPerson 7 6", 0, "maySpend 7 0 0", 0, "maySpend 7 3 2", 0, "limit 7 0 1", 0,
                "limit 7 3 1", 0);
    }

    private static void limitOfSomebody() {
        edges.sentence("3: Throws IndexOutOfBoundsException if there is no such PERSON");
        edges.index(Starts.EMPTY, "limit # 0 7", 0);
        edges.index("person -1", "limit # 0 7", 1);
        edges.index(CHAIN, "limit # 0 7", 4);
        edges.index(EIGHT, "limit # 0 7", 8);
        edges.sentence("3: no such PERSON, and limit is not 0 to 9999: what is named first");
        edges.refused(CHAIN, "limit 4 0 10000", Edges.INDEX);
        edges.refused(CHAIN, "limit -1 0 -1", Edges.INDEX);
    }

    private static void limitOfAKind() {
        edges.sentence("3: Throws IndexOutOfBoundsException if there is no such KIND");
        edges.index(CHAIN, "limit 3 # 7", 4);
        edges.sentence("3: no such KIND, and limit is not 0 to 9999: what is named first");
        edges.refused(CHAIN, "limit 0 4 10000", Edges.INDEX);
        edges.refused(CHAIN, "limit 0 -1 -1", Edges.INDEX);
        edges.sentence("PEOPLE: for each KIND a LIMIT");
        edges.answers(CHAIN + "limit 3 0 1; limit 3 3 2; limit 2 3 3", "limit 3 0 9", 1, "limit 3 3 9", 2,
                "limit 3 1 9", 0, "limit 2 3 9", 3);
    }

    private static void limitInItsRange() {
        edges.sentence("3: Throws IllegalArgumentException if limit is not 0 to 9999");
        edges.range(CHAIN, "limit 3 2 #", 0, 9999, Edges.ARGUMENT, "maySpend 3 2 0");
        edges.range(Starts.LAST_DAY, "limit 4 3 #", 0, 9999, Edges.ARGUMENT, "limit 4 3 5");
    }

    private static void limitTellsTheOneBefore() {
        edges.sentence("3: Returns the one before.");
        edges.answers(CHAIN, "limit 3 2 9999", 0, "limit 3 2 9999", 9999, "limit 3 2 0", 9999, "limit 3 2 1", 0);
    }

    private static void awayOfSomebody() {
        edges.sentence("4: Throws IndexOutOfBoundsException if there is no such PERSON");
        edges.index(EIGHT, "away # 5 4", 8);
        edges.refused(CHAIN, "away 4 5 0", Edges.INDEX);
        edges.sentence("4: no such PERSON, and a wrong day, or other is person: what is named first");
        edges.refused(CHAIN, "away 4 120 0", Edges.INDEX);
        edges.refused(CHAIN, "away -1 -1 -1", Edges.INDEX);
        edges.refused(CHAIN, "away 4 5 4", Edges.INDEX);
    }

    private static void awayByAnother() {
        edges.sentence("4: no such PERSON as the STAND-IN, which is another one");
        edges.index(EIGHT, "away 4 5 #", 8);
        edges.refused("person -1", "away 0 5 1", Edges.INDEX);
        edges.refused("person -1", "away 0 5 -1", Edges.INDEX);
        edges.refused(CHAIN, "away 0 5 4", Edges.INDEX);
        edges.refused(CHAIN, "away 0 120 4", Edges.INDEX);
        edges.sentence("4: Throws IllegalArgumentException if other is person");
        edges.refused("person -1", "away 0 5 0", Edges.ARGUMENT);
        edges.refused(CHAIN, "away 0 5 0", Edges.ARGUMENT);
        edges.refused(EIGHT, "away 7 5 7", Edges.ARGUMENT);
        edges.refused(EIGHT, "away 7 120 7", Edges.ARGUMENT);
        edges.answers(EIGHT, "away 7 5 6", false, "away 6 5 7", false, "away 0 5 1", false);
    }

    private static void awayRefusedChangesNothing() {
        edges.sentence("4: A method that throws an exception changes nothing: one who is AWAY keeps DAY and STAND-IN");
        String away = CHAIN + "charge 3 0 0 600 0; receipt 600 0 0; away 2 4 1; ";
        edges.answers(away, "ofCharge 0 10", 1, "away 2 9 2", Edges.ARGUMENT, "ofCharge 0 10", 1, "away 2 120 0",
                Edges.ARGUMENT, "ofCharge 0 10", 1, "away 2 -1 0", Edges.ARGUMENT, "ofCharge 0 10", 1, "away 2 9 4",
                Edges.INDEX, "ofCharge 0 10", 1, "ofPerson 2 3", 1);
        edges.refused(away, "away 2 9 2", Edges.ARGUMENT);
        edges.refused(away, "away 2 120 0", Edges.ARGUMENT);
        edges.refused(away, "away 2 9 4", Edges.INDEX);
        edges.answers(away + "4 * day", "away 2 119 2", Edges.ARGUMENT, "ofPerson 2 3", 1, "day", 0, "ofPerson 2 3", 0);
    }

    private static void awayUpToADay() {
        edges.sentence("4: Throws IllegalArgumentException if day is not 0 to 119");
        edges.range(CHAIN, "away 0 # 1", 0, 119, Edges.ARGUMENT);
        edges.range(CHAIN + "50 * day", "away 3 # 0", 0, 119, Edges.ARGUMENT);
        edges.range(Starts.LAST_DAY, "away 3 # 0", 0, 119, Edges.ARGUMENT);
    }

    private static void awayWithTheLastDay() {
        edges.sentence("PEOPLE: AWAY up to a DAY (with it)");
        edges.answers(CHAIN + "away 0 3 1; 2 * day", "ofPerson 0 3", 1, "day", 0, "ofPerson 0 3", 1, "day", 0,
                "ofPerson 0 3", 0);
        edges.answers(CHAIN + "away 0 0 1", "ofPerson 0 3", 1, "day", 0, "ofPerson 0 3", 0);
        edges.answers(CHAIN + "away 0 119 1; 118 * day", "ofPerson 0 3", 1, "day", 0, "ofPerson 0 3", 1);
        edges.answers(CHAIN + "away 0 118 1; 118 * day", "ofPerson 0 3", 1, "day", 0, "ofPerson 0 3", 0);
    }

    private static void awayBelowToday() {
        edges.sentence("4: up to which DAY (below today: not AWAY)");
        edges.answers(CHAIN + "5 * day; away 0 4 1", "ofPerson 0 3", 0);
        edges.answers(CHAIN + "5 * day; away 0 5 1", "ofPerson 0 3", 1, "day", 0, "ofPerson 0 3", 0);
        edges.answers(CHAIN + "5 * day; away 0 6 1", "ofPerson 0 3", 1, "day", 0, "ofPerson 0 3", 1);
        edges.answers(CHAIN + "5 * day; away 0 9 1; away 0 4 1", "ofPerson 0 3", 0);
        edges.answers(CHAIN + "119 * day; away 0 118 1", "ofPerson 0 3", 0, "away 0 119 1", false, "ofPerson 0 3", 1);
    }

    private static void awayTellsWhatWas() {
        edges.sentence("4: Returns whether it was AWAY today, ahead of that.");
        edges.answers(CHAIN, "away 0 3 1", false, "away 1 3 2", false);
        edges.answers(CHAIN + "away 0 3 1; 3 * day", "away 0 3 2", true, "away 0 0 1", true, "away 0 9 1", false);
        edges.answers(CHAIN + "away 0 3 1; 4 * day", "away 0 9 1", false);
    }

    private static void tripsAreEight() {
        edges.sentence("5: Throws IllegalStateException if there are 8; TRIPS: at most 8, numbered from 0");
        edges.answers(CHAIN, "trip 3 0 0 9 5", 0, "many 1", 1);
        edges.answers(CHAIN + "6 * trip 3 0 0 9 5", "trip 3 0 0 9 5", 6, "trip 0 2 7 7 5", 7, "many 1", 8);
        edges.refused(CHAIN + "8 * trip 3 0 0 9 5", "trip 3 0 0 9 5", Edges.STATE);
        edges.refused(CHAIN + "8 * trip 3 0 0 9 5", "trip 0 2 119 119 0", Edges.STATE);
        edges.sentence("5: if there are 8, and something else is wrong: what is named first");
        edges.refused(CHAIN + "8 * trip 3 0 0 9 5", "trip 4 0 0 9 5", Edges.INDEX);
        edges.refused(CHAIN + "8 * trip 3 0 0 9 5", "trip 3 3 0 9 5", Edges.INDEX);
        edges.refused(CHAIN + "8 * trip 3 0 0 9 5", "trip 3 0 9 8 5", Edges.ARGUMENT);
        edges.refused(CHAIN + "8 * trip 3 0 0 9 5", "trip 3 0 0 120 5", Edges.ARGUMENT);
        edges.refused(CHAIN + "8 * trip 3 0 0 9 5", "trip 3 0 0 9 10000", Edges.ARGUMENT);
    }

    private static void tripOfSomebody() {
        edges.sentence("5: Throws IndexOutOfBoundsException if there is no such PERSON, or LAND");
        edges.index(CHAIN, "trip # 1 0 9 5", 4);
        edges.index(EIGHT, "trip # 1 0 9 5", 8);
        edges.index(CHAIN, "trip 3 # 0 9 5", 3);
        edges.sentence("5: no such PERSON, or LAND, and a wrong DAY or EXTRA: what is named first");
        edges.refused(CHAIN, "trip 4 0 9 8 5", Edges.INDEX);
        edges.refused(CHAIN, "trip 3 3 0 120 5", Edges.INDEX);
        edges.refused(CHAIN, "trip 3 -1 -1 9 5", Edges.INDEX);
        edges.refused(CHAIN, "trip -1 0 0 9 -1", Edges.INDEX);
    }

    private static void tripFromAndTo() {
        edges.sentence("5: Throws IllegalArgumentException if from is not 0 to 119");
        edges.range(CHAIN, "trip 3 0 # 119 5", 0, 119, Edges.ARGUMENT);
        edges.sentence("5: Throws IllegalArgumentException if to is not 0 to 119");
        edges.range(CHAIN, "trip 3 0 0 # 5", 0, 119, Edges.ARGUMENT);
        edges.refused(CHAIN, "trip 3 0 120 120 5", Edges.ARGUMENT);
        edges.refused(CHAIN, "trip 3 0 -1 -1 5", Edges.ARGUMENT);
        edges.sentence("5: Throws IllegalArgumentException if to is below from");
        edges.range(CHAIN, "trip 3 0 60 # 5", 60, 119, Edges.ARGUMENT);
        edges.range(CHAIN, "trip 3 0 # 60 5", 0, 60, Edges.ARGUMENT);
        edges.range(CHAIN, "trip 3 0 119 # 5", 119, 119, Edges.ARGUMENT);
        edges.range(CHAIN, "trip 3 0 # 0 5", 0, 0, Edges.ARGUMENT);
        edges.range(Starts.LAST_DAY, "trip 3 0 5 # 5", 5, 119, Edges.ARGUMENT);
    }

    private static void tripExtra() {
        edges.sentence("5: Throws IllegalArgumentException if extra is not 0 to 9999");
        edges.range(CHAIN, "trip 3 0 0 9 #", 0, 9999, Edges.ARGUMENT, "maySpend 3 1 0");
    }

    private static void ofPersonOfSomebody() {
        edges.sentence("6: Throws IndexOutOfBoundsException if there is no such PERSON");
        edges.index(Starts.EMPTY, "ofPerson # 1", 0);
        edges.index(CHAIN, "ofPerson # 1", 4);
        edges.index(Starts.full(), "ofPerson # 6", 8);
        edges.sentence("6: no such PERSON, and what is not 0 to 6: what is named first");
        edges.refused(CHAIN, "ofPerson 4 7", Edges.INDEX);
        edges.refused(CHAIN, "ofPerson -1 -1", Edges.INDEX);
    }

    private static void ofPersonWhat() {
        edges.sentence("6: Throws IllegalArgumentException if what is not 0 to 6");
        edges.range(Starts.BUSY, "ofPerson 3 #", 0, 6, Edges.ARGUMENT);
        edges.sentence("6: 0 the BOSS, .. 6 how many MATCHED CHARGES this one has to approve next");
        edges.answers(Starts.BUSY, "ofPerson 3 0", 2, "ofPerson 3 1", 5, "ofPerson 3 2", 2, "ofPerson 3 3", 0,
                "ofPerson 3 4", 2, "ofPerson 3 5", 0, "ofPerson 3 6", 0, "ofPerson 0 0", -1, "ofPerson 1 3", 1,
                "ofPerson 2 5", 400, "ofPerson 1 6", 0, "ofPerson 0 6", 1);
    }

    private static void ofPersonOnAFullDesk() {
        edges.sentence("6: 4 how many CHARGES are OPEN, 5 the AMOUNT of all that are REPAID, on a full desk");
        edges.answers(CHAIN + "30 * charge 3 0 0 333 0", "ofPerson 3 4", 30, "ofPerson 2 4", 0, "ofPerson 3 5", 0);
        edges.answers(CHAIN + "30 * charge 3 0 0 333 0; 14 * day", "ofPerson 3 5", 0, "day", 30, "ofPerson 3 5", 9990,
                "ofPerson 3 4", 0, "ofPerson 3 1", 0, "ofPerson 2 5", 0);
        edges.sentence("6: 6 how many MATCHED CHARGES this one has to approve next, on a full desk");
        edges.answers(CHAIN + "30 * charge 3 0 0 333 0; 30 * receipt 333 0 0", "ofPerson 2 6", 30, "ofPerson 1 6", 0,
                "ofPerson 3 6", 0, "away 2 0 1", false, "ofPerson 2 6", 0, "ofPerson 1 6", 30);
    }

    private static void lastOfFiveHundredCalls() {
        edges.sentence("What it is: used for at most 512 calls after it has been made: the last of them");
        String thirteen = CHAIN + "charge 3 0 0 600 0; ";
        edges.answers(thirteen + "498 * wouldMatch 600 0 0", "receipt 600 0 0", 0);
        edges.answers(thirteen + "497 * trustBehind 3 30", "receipt 600 0 0", 0, "ofCharge 0 10", 2);
    }
}
