import java.util.ArrayList;
import java.util.List;
import java.util.Random;

/**
 * What a desk answers from now on: all that can be asked, the values that setting new ones tells, and calls of
 * every kind, the same ones each time. Two desks that differ in anything that can be told do not answer alike.
 */
final class Later {
    private static final int WORK = 22;

    private final TextDesk desk;
    private final List<String> answers = new ArrayList<>();
    private final Random random = new Random(11);
    private int people;
    private int charges;
    private int receipts;

    private Later(TextDesk desk) {
        this.desk = desk;
    }

    static List<String> of(TextDesk desk) {
        Later later = new Later(desk);
        later.view();
        later.receiptsForOldCharges();
        later.setAll();
        for (int i = 0; i < WORK; i++) {
            later.work();
        }
        later.growOld();
        return later.answers;
    }

    private String tell(String call) {
        String answer = desk.answer(call);
        answers.add(call + " -> " + answer);
        return answer;
    }

    private int tellNumber(String call) {
        return Integer.parseInt(tell(call));
    }

    private void count() {
        people = tellNumber("many 0");
        charges = tellNumber("many 2");
        receipts = tellNumber("many 8");
    }

    private void view() {
        tell("digest");
        tell("meanTrust");
        count();
        for (int person = 0; person < people; person++) {
            tell("maySpend " + person + " " + person % 4 + " 2");
        }
        for (int i = 0; i < 6; i++) {
            tell("score " + upTo(charges) + " " + upTo(receipts));
            tell("wouldMatch " + (100 + 5 * i) + " " + 2 * i + " " + i);
        }
    }

    private void receiptsForOldCharges() {
        for (int charge = 0; charge < Math.min(charges, 6); charge++) {
            tell("receipt " + tell("ofCharge " + charge + " 2") + " " + tell("ofCharge " + charge + " 3") + " 7");
        }
    }

    private void setAll() {
        for (int kind = 0; kind < 4; kind++) {
            for (int person = 0; person < people; person++) {
                tell("limit " + person + " " + kind + " 9999");
            }
            for (int period = 0; period < 4; period++) {
                tell("plan " + kind + " " + period + " 99999");
            }
            for (int land = 0; land < 3; land++) {
                tell("rate " + land + " " + kind + " " + (land + 5 * kind));
            }
            tell("carry " + kind + " " + 20 * kind);
        }
        tell("digest");
    }

    /** Some six calls: a charge and a receipt for it, and what may come of charges. */
    private void work() {
        int amount = new int[] {100, 495, 1995}[random.nextInt(3)] + random.nextInt(15);
        String values = random.nextInt(4) + " " + random.nextInt(3) + " " + amount + " 1";
        String come = tell("charge " + upTo(people) + " " + values);
        charges = TextDesk.isException(come) ? charges : Integer.parseInt(come) + 1;
        int charge = upTo(charges);
        if (random.nextInt(3) > 0) {
            int today = tellNumber("many 10");
            String matched = tell("receipt " + (amount - random.nextInt(5)) + " " + today + " 1");
            charge = TextDesk.isException(matched) ? charge : Math.max(0, Integer.parseInt(matched));
        }
        change(charge);
        tell("digest");
    }

    private void change(int charge) {
        switch (random.nextInt(8)) {
            case 0:
                tell("split " + charge);
                break;
            case 1:
            case 2:
                tell("approve " + charge + " " + approverOf(charge));
                break;
            case 3:
            case 4:
                tell("refuse " + charge + " " + approverOf(charge));
                tell("settle " + charge + " " + random.nextBoolean());
                break;
            case 5:
                tell("away " + upTo(people) + " " + random.nextInt(120) + " " + upTo(people));
                break;
            case 6:
                tell(random.nextBoolean() ? "day" : "person " + (people - 1));
                break;
            default:
                tell("trip " + upTo(people) + " 1 0 119 700");
                break;
        }
    }

    private String approverOf(int charge) {
        String answer = tell("ofCharge " + charge + " 10");
        return TextDesk.isException(answer) ? "0" : answer;
    }

    private void growOld() {
        for (int i = 0; i < 17; i++) {
            tell("day");
            if (i % 3 == 1) {
                tell("digest");
            }
        }
        for (int i = 0; i < 8; i++) {
            int charge = upTo(charges);
            tell("settle " + charge + " false");
            tell("split " + charge);
        }
        tell("digest");
    }

    private int upTo(int count) {
        return random.nextInt(Math.max(count, 1));
    }
}
