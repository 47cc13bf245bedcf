import java.lang.reflect.Constructor;
import java.lang.reflect.Field;
import java.lang.reflect.Method;
import java.lang.reflect.Modifier;
import java.util.Arrays;
import java.util.HashSet;
import java.util.Set;
import java.util.TreeSet;

/** The public face: just the members of the document, with what they throw. */
public final class FaceTest {
    private static final Checks checks = new Checks();
    private static final String I = "IndexOutOfBoundsException";
    private static final String A = "IllegalArgumentException";
    private static final String S = "IllegalStateException";

    private static final String[] FACE = {
        "int person(int) " + I + " " + S,
        "int limit(int,int,int) " + I + " " + A,
        "boolean away(int,int,int) " + I + " " + A,
        "int trip(int,int,int,int,int) " + I + " " + A + " " + S,
        "int ofPerson(int,int) " + I + " " + A,
        "int maySpend(int,int,int) " + I,
        "int plan(int,int,int) " + I + " " + A,
        "int carry(int,int) " + I + " " + A,
        "int rate(int,int,int) " + I + " " + A,
        "int left(int,int) " + I,
        "int charge(int,int,int,int,int) " + I + " " + A + " " + S,
        "int receipt(int,int,int) " + A + " " + S,
        "int split(int) " + I + " " + S,
        "int approve(int,int) " + I + " " + S,
        "int refuse(int,int) " + I + " " + S,
        "int settle(int,boolean) " + I + " " + S,
        "int ofCharge(int,int) " + I + " " + A,
        "int ofReceipt(int) " + I,
        "int score(int,int) " + I,
        "int day() " + S,
        "int many(int) " + A,
        "double meanTrust()",
        "int wouldMatch(int,int,int) " + A,
        "int trustBehind(int,int) " + I + " " + A,
        "int leftWith(int,int) " + I,
        "long digest()",
    };

    public static void main(String[] args) {
        checks.same("public and final", ApprovalGrid.class.getModifiers(), Modifier.PUBLIC | Modifier.FINAL);
        constructors();
        methods();
        fields();
        checks.end();
    }

    private static void constructors() {
        Constructor<?>[] all = ApprovalGrid.class.getDeclaredConstructors();
        checks.same("constructors", all.length, 1);
        checks.same("its modifiers", all[0].getModifiers(), Modifier.PUBLIC);
        checks.same("its parameters", all[0].getParameterCount(), 0);
    }

    private static void methods() {
        Set<String> open = new TreeSet<>();
        Set<String> openNames = new HashSet<>();
        Set<String> hiddenNames = new HashSet<>();
        for (Method method : ApprovalGrid.class.getDeclaredMethods()) {
            if (Modifier.isPrivate(method.getModifiers())) {
                hiddenNames.add(method.getName());
            } else {
                checks.same("modifiers of " + method, method.getModifiers(), Modifier.PUBLIC);
                open.add(signature(method));
                openNames.add(method.getName());
            }
        }
        Set<String> due = new TreeSet<>(Arrays.asList(FACE));
        checks.same("the face", open.equals(due), true);
        if (!open.equals(due)) {
            checks.tell("it is " + open + ", due is " + due);
        }
        hiddenNames.retainAll(openNames);
        checks.same("private methods with a public one's name: " + hiddenNames, hiddenNames.isEmpty(), true);
    }

    private static String signature(Method method) {
        StringBuilder text = new StringBuilder(method.getReturnType() + " " + method.getName() + "(");
        String gap = "";
        for (Class<?> type : method.getParameterTypes()) {
            text.append(gap).append(type);
            gap = ",";
        }
        text.append(")");
        for (Class<?> type : method.getExceptionTypes()) {
            text.append(" ").append(type.getSimpleName());
        }
        return text.toString();
    }

    private static void fields() {
        for (Field field : ApprovalGrid.class.getDeclaredFields()) {
            int modifiers = field.getModifiers();
            checks.same("private: " + field, Modifier.isPrivate(modifiers), true);
            boolean isKept = !Modifier.isStatic(modifiers) || Modifier.isFinal(modifiers);
            checks.same("final if static: " + field, isKept, true);
        }
    }
}
