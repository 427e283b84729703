import java.lang.reflect.InvocationTargetException;
import java.lang.reflect.Method;
import java.util.Arrays;
import java.util.Map;
import java.util.WeakHashMap;

/** Asks a ledger, real or slow, by the names of its methods, and counts the answers that are not due. */
final class Check {
    /** The document promises nothing about an object after its 512th call. */
    private static final int MAX_CALLS = 512;
    private static final Map<Object, Integer> CALLS = new WeakHashMap<>();
    private static int right = 0;
    private static int wrong = 0;

    private Check() {
    }

    /** The answer of a call: its number, or the name of what it throws behind "throws.". */
    static String ask(Object ledger, String method, int... numbers) {
        if (CALLS.merge(ledger, 1, Integer::sum) > MAX_CALLS) {
            throw new IllegalStateException("the test asks an object for more than is promised");
        }
        try {
            Class<?>[] types = new Class<?>[numbers.length];
            Object[] values = new Object[numbers.length];
            for (int k = 0; k < numbers.length; k++) {
                types[k] = int.class;
                values[k] = numbers[k];
            }
            Method call = ledger.getClass().getDeclaredMethod(method, types);
            return String.valueOf(call.invoke(ledger, values));
        } catch (InvocationTargetException e) {
            return thrown(e.getCause());
        } catch (ReflectiveOperationException e) {
            throw new IllegalStateException(e);
        }
    }

    /** What the library or the machine throws in the class is told apart: the class throws by itself alone. */
    private static String thrown(Throwable exception) {
        String thrower = exception.getStackTrace()[0].getClassName();
        boolean own = thrower.startsWith("RestrictedFunds") || thrower.startsWith("SlowLedger");
        return (own ? "throws." : "is thrown from within: ") + exception.getClass().getSimpleName();
    }

    static void same(String what, String got, String due) {
        if (got.equals(due)) {
            right++;
        } else {
            wrong++;
            System.out.println(what + " answered " + got + ", due is " + due);
        }
    }

    /** A call that answers a number. */
    static void due(int answer, RestrictedFunds ledger, String method, int... numbers) {
        same(told(method, numbers), ask(ledger, method, numbers), String.valueOf(answer));
    }

    /** A call that throws; whether it changed anything is seen by isStill. */
    static void bounds(RestrictedFunds ledger, String method, int... numbers) {
        same(told(method, numbers), ask(ledger, method, numbers), "throws.IndexOutOfBoundsException");
    }

    static void argument(RestrictedFunds ledger, String method, int... numbers) {
        same(told(method, numbers), ask(ledger, method, numbers), "throws.IllegalArgumentException");
    }

    static void state(RestrictedFunds ledger, String method, int... numbers) {
        same(told(method, numbers), ask(ledger, method, numbers), "throws.IllegalStateException");
    }

    /** Refused in a place of a call: the numbers beside the range, and the least and the greatest int. */
    static void argumentBeside(int least, int most, RestrictedFunds ledger, String method, int place, int... numbers) {
        for (int wrong : new int[] {least - 1, most + 1, Integer.MIN_VALUE, Integer.MAX_VALUE}) {
            argument(ledger, method, with(wrong, place, numbers));
        }
    }

    /** The same of a number that tells one of so many funds, commitments or costs. */
    static void boundsBeside(int count, RestrictedFunds ledger, String method, int place, int... numbers) {
        for (int wrong : new int[] {-1, count, Integer.MIN_VALUE, Integer.MAX_VALUE}) {
            bounds(ledger, method, with(wrong, place, numbers));
        }
    }

    private static int[] with(int number, int place, int... numbers) {
        int[] changed = numbers.clone();
        changed[place] = number;
        return changed;
    }

    /** That nothing has changed since a picture was taken. */
    static void isStill(String before, RestrictedFunds ledger) {
        same("after calls that throw the ledger", picture(ledger), before);
    }

    /** All that can be asked of a ledger: at most 203 calls. */
    static String picture(Object ledger) {
        StringBuilder text = new StringBuilder();
        add(text, ledger, "today");
        int funds = Integer.parseInt(add(text, ledger, "funds"));
        int commitments = Integer.parseInt(add(text, ledger, "commitments"));
        int costs = Integer.parseInt(add(text, ledger, "costs"));
        add(text, ledger, "payable");
        for (int k = 0; k < funds; k++) {
            addAll(text, ledger, k, "freeOf", "committedOf", "directOf", "overheadOf", "roomOf", "wouldTake");
        }
        for (int k = 0; k < commitments; k++) {
            addAll(text, ledger, k, "fundOf", "leftOf", "untilOf");
        }
        for (int k = 0; k < costs; k++) {
            addAll(text, ledger, k, "unpaidOf", "wouldPay", "reason");
            for (int fund = 0; fund < funds; fund++) {
                add(text, ledger, "paidBy", k, fund);
            }
        }
        return text.toString();
    }

    private static void addAll(StringBuilder text, Object ledger, int number, String... methods) {
        for (String method : methods) {
            add(text, ledger, method, number);
        }
    }

    private static String add(StringBuilder text, Object ledger, String method, int... numbers) {
        String answer = ask(ledger, method, numbers);
        text.append(told(method, numbers)).append('=').append(answer).append(' ');
        return answer;
    }

    static String told(String method, int... numbers) {
        return method + Arrays.toString(numbers).replace('[', '(').replace(']', ')');
    }

    /** Tells how many answers were due; ends with exit code 1 if one was not. */
    static void finish(String test) {
        System.out.println(test + ": " + right + " checks hold, " + wrong + " do not");
        if (wrong != 0 || right == 0) {
            System.exit(1);
        }
    }
}
