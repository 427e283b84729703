import java.lang.reflect.Constructor;
import java.lang.reflect.Field;
import java.lang.reflect.Method;
import java.lang.reflect.Modifier;
import java.util.Arrays;
import java.util.Set;
import java.util.TreeSet;

/** The public face: the class, its constants, its constructor and its methods, and nothing else. */
public final class FaceTest {
    private static final String[] METHODS = {
        "addFund 4 IllegalArgumentException IllegalStateException",
        "deposit 2 IndexOutOfBoundsException IllegalArgumentException",
        "commit 4 IndexOutOfBoundsException IllegalArgumentException IllegalStateException",
        "cancel 1 IndexOutOfBoundsException", "advance 1 IllegalArgumentException",
        "addCost 3 IllegalArgumentException IllegalStateException", "charge 0",
        "chargeOverhead 1 IllegalArgumentException", "today 0", "funds 0",
        "freeOf 1 IndexOutOfBoundsException", "committedOf 1 IndexOutOfBoundsException",
        "directOf 1 IndexOutOfBoundsException", "overheadOf 1 IndexOutOfBoundsException",
        "roomOf 1 IndexOutOfBoundsException", "commitments 0", "fundOf 1 IndexOutOfBoundsException",
        "leftOf 1 IndexOutOfBoundsException", "untilOf 1 IndexOutOfBoundsException", "costs 0",
        "unpaidOf 1 IndexOutOfBoundsException", "paidBy 2 IndexOutOfBoundsException", "payable 0",
        "wouldPay 1 IndexOutOfBoundsException", "wouldTake 1 IndexOutOfBoundsException",
        "reason 1 IndexOutOfBoundsException"
    };

    public static void main(String[] args) throws ReflectiveOperationException {
        Check.same("the class", Modifier.toString(RestrictedFunds.class.getModifiers()), "public final");
        constants();
        constructor();
        methods();
        Check.finish("FaceTest");
    }

    private static void constants() throws ReflectiveOperationException {
        String[] names = {"PAID", "NO_FUND", "TOO_LATE", "CHARGEABLE", "HELD", "SPENT"};
        Set<String> open = new TreeSet<>();
        for (Field field : RestrictedFunds.class.getDeclaredFields()) {
            if (!Modifier.isPrivate(field.getModifiers())) {
                open.add(field.getName());
            }
        }
        Check.same("the constants", open.toString(), new TreeSet<>(Arrays.asList(names)).toString());
        for (int k = 0; k < names.length; k++) {
            Field field = RestrictedFunds.class.getDeclaredField(names[k]);
            Check.same(names[k], Modifier.toString(field.getModifiers()), "public static final");
            Check.same(names[k], field.getType() + " " + field.getInt(null), "int " + k);
        }
    }

    private static void constructor() {
        Constructor<?>[] made = RestrictedFunds.class.getDeclaredConstructors();
        Check.same("the constructors", String.valueOf(made.length), "1");
        Check.same("the constructor", made[0].toString(), "public RestrictedFunds()");
    }

    private static void methods() {
        Set<String> open = new TreeSet<>();
        Set<String> names = new TreeSet<>();
        for (Method method : RestrictedFunds.class.getDeclaredMethods()) {
            if (!Modifier.isPrivate(method.getModifiers())) {
                open.add(told(method));
                names.add(method.getName());
                Check.same(method.getName(), Modifier.toString(method.getModifiers()) + " " + method.getReturnType(),
                        "public int");
            }
        }
        for (Method method : RestrictedFunds.class.getDeclaredMethods()) {
            boolean shared = Modifier.isPrivate(method.getModifiers()) && names.contains(method.getName());
            Check.same("a private method with a public name, " + method.getName(), String.valueOf(shared), "false");
        }
        Check.same("the methods", open.toString(), new TreeSet<>(Arrays.asList(METHODS)).toString());
    }

    private static String told(Method method) {
        StringBuilder text = new StringBuilder(method.getName()).append(' ').append(method.getParameterCount());
        for (Class<?> type : method.getParameterTypes()) {
            Check.same("a parameter of " + method.getName(), type.toString(), "int");
        }
        for (Class<?> exception : method.getExceptionTypes()) {
            text.append(' ').append(exception.getSimpleName());
        }
        return text.toString();
    }
}
