import java.util.List;
import java.util.TreeSet;

/** Tests of the bounds that a sentence of the document names, each on a desk of its own. */
final class Edges {
    static final String INDEX = "IndexOutOfBoundsException";
    static final String ARGUMENT = "IllegalArgumentException";
    static final String STATE = "IllegalStateException";

    private final Checks checks = new Checks();
    private String sentence = "no sentence";

    /** The sentence of the document that the next ones test, behind the number of its promise. */
    void sentence(String text) {
        sentence = text;
    }

    /** The calls answer in their order; each is a text, and behind it what is due. */
    void answers(String start, Object... callsAndDues) {
        TextDesk desk = TextDesk.of(start);
        for (int i = 0; i + 1 < callsAndDues.length; i += 2) {
            String call = (String) callsAndDues[i];
            same(start, call, desk.answer(call), String.valueOf(callsAndDues[i + 1]));
        }
    }

    /** The call throws that exception, and every later answer is as if it had not been made. */
    void refused(String start, String call, String exception) {
        TextDesk desk = TextDesk.of(start);
        same(start, call, desk.answer(call), exception);
        sameLater(start, call, desk);
    }

    /** The call is taken, and every later answer is as if it had not been made. */
    void changesNothing(String start, String call) {
        TextDesk desk = TextDesk.of(start);
        desk.begin(call);
        sameLater(start, call, desk);
    }

    /**
     * The # in the call is taken at both bounds and just inside them, and refused just outside them and at the ends
     * of int.
     */
    void range(String start, String call, int least, int most, String exception) {
        for (int value : inside(least, most)) {
            taken(start, with(call, value));
        }
        for (int value : new int[] {Integer.MIN_VALUE, least - 1, most + 1, Integer.MAX_VALUE}) {
            refused(start, with(call, value), exception);
        }
    }

    /** As range, and each value that is taken is what the other call answers then. */
    void range(String start, String call, int least, int most, String exception, String readBack) {
        range(start, call, least, most, exception);
        for (int value : inside(least, most)) {
            TextDesk desk = TextDesk.of(start).begin(with(call, value));
            same(start, readBack + " behind " + value, desk.answer(readBack), String.valueOf(value));
        }
    }

    /** The # in the call is taken at the upper bound and just inside it, and refused just outside it. */
    void most(String start, String call, int most, String exception) {
        taken(start, with(call, most - 1));
        taken(start, with(call, most));
        refused(start, with(call, most + 1), exception);
    }

    /** The # in the call is a number of something of which there are so many. */
    void index(String start, String call, int count) {
        range(start, call, 0, count - 1, INDEX);
    }

    void end() {
        checks.end();
    }

    private void taken(String start, String call) {
        String answer = TextDesk.of(start).answer(call);
        checks.same("taken: " + call, TextDesk.isException(answer), false);
        if (TextDesk.isException(answer)) {
            wrong(start, call + " answered " + answer);
        }
    }

    private void sameLater(String start, String call, TextDesk desk) {
        List<String> later = Later.of(desk);
        List<String> due = Later.of(TextDesk.of(start));
        for (int i = 0; i < due.size(); i++) {
            if (i >= later.size() || !later.get(i).equals(due.get(i))) {
                wrong(start, "behind " + call + ": " + later.get(i) + ", due is " + due.get(i));
                return;
            }
        }
    }

    private static String with(String call, int value) {
        return call.replace("#", String.valueOf(value));
    }

    private static TreeSet<Integer> inside(int least, int most) {
        TreeSet<Integer> values = new TreeSet<>();
        if (least <= most) {
            values.add(least);
            values.add(Math.min(least + 1, most));
            values.add(Math.max(most - 1, least));
            values.add(most);
        }
        return values;
    }

    private void same(String start, String call, String got, String due) {
        checks.same(call, got.equals(due), true);
        if (!got.equals(due)) {
            wrong(start, call + " answered " + got + ", due is " + due);
        }
    }

    private void wrong(String start, String text) {
        checks.tell(sentence + "\n  on a desk with " + start + "\n  " + text);
    }
}
