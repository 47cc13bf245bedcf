import java.math.BigInteger;

/** The bounds that promises 24 to 27 name, sentence by sentence. */
public final class WouldBeEdgesTest {
    private static final Edges edges = new Edges();
    private static final String CHAIN = Starts.CHAIN;
    private static final String OPEN = CHAIN + "charge 3 0 0 100 0; ";
    private static final String MATCHED = OPEN + "receipt 100 0 0; ";

    public static void main(String[] args) {
        wouldMatchInItsRanges();
        wouldMatchAlsoWithThirty();
        wouldMatchAsWithReceipt();
        nothingIsChanged();
        trustBehindOfSomebody();
        trustBehindDays();
        trustBehindAtTheEdges();
        trustBehindNotBelowZero();
        trustBehindNoMoreThanThereAre();
        leftWithOfAKindAndPeriod();
        leftWithAllOpenOnesMatched();
        digestStarts();
        digestWrapsAround();
        edges.end();
    }

    private static void wouldMatchInItsRanges() {
        edges.sentence("24: Throws IllegalArgumentException as with receipt(): amount is not 1 to 9999");
        edges.range(Starts.EMPTY, "wouldMatch # 0 0", 1, 9999, Edges.ARGUMENT);
        edges.range(Starts.BUSY, "wouldMatch # 0 0", 1, 9999, Edges.ARGUMENT);
        edges.sentence("24: Throws IllegalArgumentException as with receipt(): day is not 0 to 119");
        edges.range(Starts.EMPTY, "wouldMatch 1 # 0", 0, 119, Edges.ARGUMENT);
        edges.range(Starts.LAST_DAY, "wouldMatch 1 # 0", 0, 119, Edges.ARGUMENT);
        edges.sentence("24: Throws IllegalArgumentException as with receipt(): text is not 0 to 9");
        edges.range(Starts.EMPTY, "wouldMatch 1 0 #", 0, 9, Edges.ARGUMENT);
        edges.range(Starts.BUSY, "wouldMatch 1 0 #", 0, 9, Edges.ARGUMENT);
        edges.refused(Starts.full(), "wouldMatch 0 0 0", Edges.ARGUMENT);
        edges.refused(Starts.full(), "wouldMatch 1 120 0", Edges.ARGUMENT);
        edges.refused(Starts.full(), "wouldMatch 1 0 10", Edges.ARGUMENT);
    }

    private static void wouldMatchAlsoWithThirty() {
        edges.sentence("24: as with receipt(), also if there are 30");
        edges.answers(OPEN + "30 * receipt 5000 0 0", "wouldMatch 100 0 0", 0, "receipt 100 0 0", Edges.STATE,
                "wouldMatch 111 0 0", -1, "wouldMatch 5000 0 0", -1);
        edges.answers(Starts.full(), "wouldMatch 700 0 0", 20, "wouldMatch 970 3 9", 29, "wouldMatch 690 0 0", 20,
                "wouldMatch 689 0 0", -1, "wouldMatch 670 0 0", -1, "many 8", 30);
        edges.sentence("24: a RECEIPT that was SPLIT from a CHARGE is not the one that would come");
        edges.answers(OPEN + "29 * receipt 5000 0 0; receipt 100 0 0; split 0", "ofCharge 0 5", -1,
                "wouldMatch 100 0 0", 0);
        edges.answers(MATCHED + "split 0; 29 * receipt 5000 0 0", "wouldMatch 100 0 0", 0);
    }

    private static void wouldMatchAsWithReceipt() {
        edges.sentence("24: Returns the CHARGE with which such a RECEIPT would be MATCHED");
        edges.answers(Starts.EMPTY, "wouldMatch 1 0 0", -1);
        edges.answers(OPEN, "wouldMatch 110 3 9", 0, "wouldMatch 90 3 9", 0, "wouldMatch 111 3 0", -1,
                "wouldMatch 89 3 0", -1, "wouldMatch 100 4 0", -1);
        String two = CHAIN + "charge 3 0 0 101 1; charge 3 0 0 99 1; charge 3 0 0 109 2";
        edges.answers(two, "wouldMatch 100 0 1", 0, "wouldMatch 99 0 1", 1, "wouldMatch 100 0 2", 2,
                "wouldMatch 104 0 0", 0);
        edges.sentence("24: an OPEN CHARGE alone");
        edges.answers(MATCHED, "wouldMatch 100 0 0", -1, "approve 0 2", 2, "wouldMatch 100 0 0", -1);
        edges.answers(MATCHED + "refuse 0 2", "wouldMatch 100 0 0", -1, "settle 0 true", 3, "wouldMatch 100 0 0", -1);
        edges.answers(OPEN + "14 * day", "wouldMatch 100 0 0", 0, "day", 1, "wouldMatch 100 0 0", -1);
    }

    private static void nothingIsChanged() {
        edges.sentence("Ahead of promise 24: what would be (nothing is changed)");
        String[] asked = {"wouldMatch 700 0 2", "wouldMatch 90 0 5", "trustBehind 3 30", "trustBehind 3 0",
            "leftWith 0 0", "leftWith 3 3", "digest", "meanTrust", "maySpend 3 0 1", "score 1 1", "left 0 3"};
        for (String call : asked) {
            edges.changesNothing(Starts.BUSY, call);
            edges.changesNothing(Starts.LAST_DAY, call);
        }
        for (String call : new String[] {"wouldMatch 700 0 0", "trustBehind 7 30", "leftWith 3 3", "digest"}) {
            edges.changesNothing(Starts.full(), call);
        }
    }

    private static void trustBehindOfSomebody() {
        edges.sentence("25: Throws IndexOutOfBoundsException if there is no such PERSON");
        edges.index(Starts.EMPTY, "trustBehind # 0", 0);
        edges.index(CHAIN, "trustBehind # 30", 4);
        edges.index(Starts.full(), "trustBehind # 30", 8);
        edges.sentence("25: no such PERSON, and days is not 0 to 30: what is named first");
        edges.refused(CHAIN, "trustBehind 4 31", Edges.INDEX);
        edges.refused(CHAIN, "trustBehind -1 -1", Edges.INDEX);
    }

    private static void trustBehindDays() {
        edges.sentence("25: Throws IllegalArgumentException if days is not 0 to 30");
        edges.range(OPEN, "trustBehind 3 #", 0, 30, Edges.ARGUMENT);
        edges.range(Starts.LAST_DAY, "trustBehind 3 #", 0, 30, Edges.ARGUMENT);
    }

    private static void trustBehindAtTheEdges() {
        edges.sentence("25: Returns the TRUST behind so many, if nothing else comes.");
        edges.answers(OPEN, "trustBehind 3 0", 5, "trustBehind 3 7", 5, "trustBehind 3 8", 4, "trustBehind 3 14", 4,
                "trustBehind 3 15", 3, "trustBehind 3 30", 3, "trustBehind 2 30", 5, "ofPerson 3 1", 5);
        edges.answers(OPEN + "7 * day", "trustBehind 3 0", 5, "trustBehind 3 1", 4, "trustBehind 3 7", 4,
                "trustBehind 3 8", 3);
        edges.answers(OPEN + "8 * day", "trustBehind 3 0", 4, "trustBehind 3 6", 4, "trustBehind 3 7", 3);
        edges.answers(OPEN + "14 * day", "trustBehind 3 0", 4, "trustBehind 3 1", 3);
        edges.answers(OPEN + "15 * day", "trustBehind 3 0", 3, "trustBehind 3 30", 3);
        edges.sentence("25: CHARGES that are OPEN again by a split, at each age");
        edges.answers(MATCHED + "7 * day; split 0", "trustBehind 3 0", 5, "trustBehind 3 1", 4, "trustBehind 3 8", 3);
        edges.answers(MATCHED + "8 * day; split 0", "trustBehind 3 6", 5, "trustBehind 3 7", 4, "trustBehind 3 30", 4);
        edges.answers(MATCHED + "14 * day; split 0", "trustBehind 3 0", 5, "trustBehind 3 1", 4, "trustBehind 3 2", 4);
        edges.answers(MATCHED + "15 * day; split 0", "trustBehind 3 0", 5, "trustBehind 3 1", 4, "trustBehind 3 30", 4);
        edges.answers(MATCHED + "40 * day; split 0", "trustBehind 3 0", 5, "trustBehind 3 1", 4, "trustBehind 3 30", 4);
        edges.sentence("25: CHARGES that are not OPEN cost nothing");
        String[] states = {"", "approve 0 2; ", "refuse 0 2; ", "refuse 0 2; settle 0 true; "};
        for (String state : states) {
            edges.answers(MATCHED + state, "trustBehind 3 30", 5);
        }
    }

    private static void trustBehindNotBelowZero() {
        edges.sentence("25: the TRUST behind so many, not below 0");
        edges.answers(CHAIN + "5 * charge 3 0 0 100 0", "trustBehind 3 8", 0, "trustBehind 3 15", 0);
        edges.answers(CHAIN + "6 * charge 3 0 0 100 0", "trustBehind 3 7", 5, "trustBehind 3 8", 0);
        edges.answers(CHAIN + "4 * charge 3 0 0 100 0", "trustBehind 3 8", 1, "trustBehind 3 15", 0);
        edges.answers(CHAIN + "30 * charge 3 0 0 100 0; 15 * day", "trustBehind 3 0", 0, "trustBehind 3 30", 0);
        edges.answers(CHAIN + "18 * charge 3 0 0 100 0; 15 * receipt 100 0 0", "trustBehind 3 0", 10,
                "trustBehind 3 8", 7, "trustBehind 3 15", 4);
    }

    private static void trustBehindNoMoreThanThereAre() {
        edges.sentence("25: so many (no more than there are)");
        edges.answers(CHAIN + "111 * day; charge 3 0 0 100 0", "trustBehind 3 7", 5, "trustBehind 3 8", 4,
                "trustBehind 3 30", 4);
        edges.answers(CHAIN + "112 * day; charge 3 0 0 100 0", "trustBehind 3 7", 5, "trustBehind 3 8", 5,
                "trustBehind 3 30", 5);
        edges.answers(CHAIN + "104 * day; charge 3 0 0 100 0", "trustBehind 3 14", 4, "trustBehind 3 15", 3,
                "trustBehind 3 30", 3);
        edges.answers(CHAIN + "105 * day; charge 3 0 0 100 0", "trustBehind 3 14", 4, "trustBehind 3 15", 4,
                "trustBehind 3 30", 4);
        edges.answers(MATCHED + "119 * day; split 0", "trustBehind 3 0", 5, "trustBehind 3 1", 5,
                "trustBehind 3 30", 5);
        edges.answers(MATCHED + "118 * day; split 0", "trustBehind 3 0", 5, "trustBehind 3 1", 4,
                "trustBehind 3 30", 4);
    }

    private static void leftWithOfAKindAndPeriod() {
        edges.sentence("26: Throws IndexOutOfBoundsException if there is no such KIND, or PERIOD");
        edges.index(Starts.EMPTY, "leftWith # 0", 4);
        edges.index(Starts.EMPTY, "leftWith 0 #", 4);
        edges.index(Starts.LAST_DAY, "leftWith # 3", 4);
        edges.index(Starts.LAST_DAY, "leftWith 3 #", 4);
        edges.refused(CHAIN, "leftWith -1 4", Edges.INDEX);
    }

    private static void leftWithAllOpenOnesMatched() {
        edges.sentence("26: Returns what would be LEFT, if all OPEN CHARGES had RECEIPTS, and were MATCHED.");
        String taxed = CHAIN + "plan 0 0 1000; plan 0 1 10; carry 0 100; rate 0 0 30; charge 3 0 0 130 0; "
                + "charge 3 0 0 260 0; ";
        edges.answers(taxed, "left 0 0", 610, "leftWith 0 0", 700, "left 0 1", 620, "leftWith 0 1", 710);
        edges.answers(taxed + "receipt 130 0 0", "left 0 0", 640, "leftWith 0 0", 700);
        edges.answers(taxed + "receipt 130 0 0; approve 0 2", "left 0 0", 640, "leftWith 0 0", 700);
        edges.answers(taxed + "receipt 130 0 0; refuse 0 2", "left 0 0", 610, "leftWith 0 0", 670);
        edges.answers(taxed + "receipt 130 0 0; refuse 0 2; settle 0 true", "left 0 0", 740, "leftWith 0 0", 800);
        edges.answers(taxed + "15 * day", "left 0 0", 1000, "leftWith 0 0", 1000);
        edges.answers(taxed + "30 * day; charge 3 0 0 13 0", "left 0 1", 997, "leftWith 0 1", 1000,
                "leftWith 0 0", 1000);
        edges.sentence("26: what would be LEFT, below 0 and above");
        edges.answers(taxed + "plan 0 0 300", "left 0 0", -90, "leftWith 0 0", 0, "left 0 1", 10, "leftWith 0 1", 10);
        edges.answers(taxed + "plan 0 0 299", "left 0 0", -91, "leftWith 0 0", -1, "leftWith 0 1", 10);
        edges.answers(taxed + "plan 0 0 301", "left 0 0", -89, "leftWith 0 0", 1, "left 0 1", 10, "leftWith 0 1", 11);
    }

    private static void digestStarts() {
        edges.sentence("27: A number d starts with 58110; for each of the following numbers v, d becomes d * 31 + v");
        String[] starts = {Starts.EMPTY, "person -1", "day", "plan 3 3 1", "carry 0 100; plan 0 0 1", "receipt 1 0 0"};
        for (String start : starts) {
            edges.answers(start, "digest", checksum(start));
        }
        edges.sentence("27: many() of 0 to 12 and no more, with the whole of what is LEFT behind it");
        edges.answers(Starts.EMPTY, "digest",
                BigInteger.valueOf(31).pow(45).multiply(BigInteger.valueOf(58110)).longValue());
    }

    private static void digestWrapsAround() {
        edges.sentence("27: d * 31 + v, which wraps around as a 64-bit integer");
        String[] starts = {CHAIN, OPEN, MATCHED, OPEN + "limit 3 0 0", Starts.BUSY, Starts.BUSY + "; 13 * day",
            Starts.LAST_DAY, Starts.full(), Starts.full() + "8 * day"};
        for (String start : starts) {
            edges.answers(start, "digest", checksum(start));
        }
    }

    /** The checksum by numbers without a bound, of which the last 64 bits are taken in the end alone. */
    private static long checksum(String start) {
        TextDesk desk = TextDesk.of(start);
        int people = desk.number("many 0");
        BigInteger d = with(BigInteger.valueOf(58110), desk, "many ", 13);
        TextDesk other = TextDesk.of(start);
        for (int person = 0; person < people; person++) {
            d = with(d, other, "ofPerson " + person + " ", 7);
            for (int kind = 0; kind < 4; kind++) {
                d = with(d, other, "maySpend " + person + " " + kind + " ", 2);
            }
        }
        for (int place = 0; place < 16; place++) {
            String kindAndPeriod = place / 4 + " " + place % 4;
            d = plus(plus(d, desk.number("left " + kindAndPeriod)), desk.number("leftWith " + kindAndPeriod));
        }
        int charges = desk.number("many 2");
        int receipts = desk.number("many 8");
        TextDesk third = TextDesk.of(start);
        for (int charge = 0; charge < charges; charge++) {
            d = with(d, third, "ofCharge " + charge + " ", 12);
        }
        d = with(d, desk, "ofReceipt ", receipts);
        for (int person = 0; person < people; person++) {
            d = plus(d, desk.number("trustBehind " + person + " 20"));
        }
        return d.longValue();
    }

    private static BigInteger with(BigInteger d, TextDesk desk, String call, int count) {
        BigInteger sum = d;
        for (int i = 0; i < count; i++) {
            sum = plus(sum, desk.number(call + i));
        }
        return sum;
    }

    private static BigInteger plus(BigInteger d, int value) {
        return d.multiply(BigInteger.valueOf(31)).add(BigInteger.valueOf(value));
    }
}
