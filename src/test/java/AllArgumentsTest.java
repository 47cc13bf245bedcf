import java.util.ArrayList;
import java.util.List;

/**
 * Every call with every choice of arguments at the bounds and just outside them, on an empty desk, a busy one, a
 * full one and one on its last day: it answers, or throws, as the model does, and where it throws nothing is changed.
 */
public final class AllArgumentsTest {
    private static final Checks checks = new Checks();
    /** So many refused calls are tried on one desk, so that it has calls left for what comes later. */
    private static final int REFUSED_AT_ONCE = 60;

    private final String start;
    private final int[] person;
    private final int[] charge;
    private final int[] receipt;
    private final int[] kind = {-1, 0, 3, 4};
    private final int[] land = {-1, 0, 2, 3};
    private final int[] period = {-1, 0, 3, 4};
    private final int[] day = {-1, 0, 119, 120};
    private final int[] amount = {0, 1, 9999, 10000};
    private final int[] text = {-1, 0, 9, 10};
    private final List<String> refused = new ArrayList<>();

    private AllArgumentsTest(String start) {
        this.start = start;
        TextDesk desk = TextDesk.of(start);
        person = numbersOf(desk.number("many 0"));
        charge = numbersOf(desk.number("many 2"));
        receipt = numbersOf(desk.number("many 8"));
    }

    public static void main(String[] args) {
        String[] starts = {Starts.EMPTY, Starts.CHAIN, Starts.BUSY, Starts.BUSY + "; 13 * day", Starts.full(),
            Starts.LAST_DAY};
        for (String start : starts) {
            AllArgumentsTest test = new AllArgumentsTest(start);
            test.people();
            test.budgets();
            test.charges();
            test.questions();
            test.nothingWasChanged();
        }
        checks.end();
    }

    private static int[] numbersOf(int count) {
        return new int[] {-2, -1, 0, count / 2, count - 1, count, Integer.MAX_VALUE, Integer.MIN_VALUE};
    }

    private void people() {
        all("person", person);
        all("limit", person, kind, new int[] {-1, 0, 9999, 10000});
        all("away", person, day, person);
        all("trip", person, land, day, day, new int[] {-1, 0, 9999, 10000});
        all("ofPerson", person, new int[] {-1, 0, 6, 7});
        all("maySpend", person, kind, land);
    }

    private void budgets() {
        all("plan", kind, period, new int[] {-1, 0, 99999, 100000});
        all("carry", kind, new int[] {-1, 0, 100, 101});
        all("rate", land, kind, new int[] {-1, 0, 30, 31});
        all("left", kind, period);
        all("leftWith", kind, period);
    }

    private void charges() {
        all("charge", person, kind, land, amount, text);
        all("receipt", amount, day, text);
        all("split", charge);
        all("approve", charge, person);
        all("refuse", charge, person);
        settles();
        all("ofCharge", charge, new int[] {-1, 0, 11, 12});
        all("ofReceipt", receipt);
        all("score", charge, receipt);
    }

    private void settles() {
        for (int number : charge) {
            alike("settle " + number + " true");
            alike("settle " + number + " false");
        }
    }

    private void questions() {
        all("day");
        all("many", new int[] {-1, 0, 12, 13});
        all("meanTrust");
        all("wouldMatch", amount, day, text);
        all("trustBehind", person, new int[] {-1, 0, 30, 31});
        all("digest");
    }

    private void all(String call, int[]... arguments) {
        if (arguments.length == 0) {
            alike(call);
            return;
        }
        int[][] others = new int[arguments.length - 1][];
        System.arraycopy(arguments, 1, others, 0, others.length);
        for (int value : arguments[0]) {
            all(call + " " + value, others);
        }
    }

    private void alike(String call) {
        String due = new TextDesk(new DeskModel()).begin(start).answer(call);
        TextDesk desk = TextDesk.of(start);
        String got = desk.answer(call);
        checks.same(call, got.equals(due), true);
        if (!got.equals(due)) {
            checks.tell(call + " answered " + got + ", due is " + due + "\n  on a desk with " + start);
        } else if (TextDesk.isException(due)) {
            refused.add(call);
        }
    }

    /** Many refused calls behind one another are as none. */
    private void nothingWasChanged() {
        checks.same("some calls are refused", refused.size() > 100, true);
        List<String> due = Later.of(TextDesk.of(start));
        for (int from = 0; from < refused.size(); from += REFUSED_AT_ONCE) {
            List<String> some = refused.subList(from, Math.min(from + REFUSED_AT_ONCE, refused.size()));
            TextDesk desk = TextDesk.of(start);
            for (String call : some) {
                desk.answer(call);
            }
            boolean isAsDue = Later.of(desk).equals(due);
            checks.same("later answers", isAsDue, true);
            if (!isAsDue) {
                checks.tell("one of " + some + " changed something\n  on a desk with " + start);
            }
        }
    }
}
