import java.lang.reflect.InvocationTargetException;
import java.lang.reflect.Method;

/** Counts checks, and prints those that fail. */
final class Check {
    interface Call {
        void run();
    }

    private static int passed;
    private static int failed;

    private Check() {
    }

    static void due(String what, long got, long want) {
        verdict(got == want, what + " answered " + got + ", due is " + want);
    }

    static void due(String what, boolean got, boolean want) {
        verdict(got == want, what + " answered " + got + ", due is " + want);
    }

    static void due(String what, String got, String want) {
        verdict(got.equals(want), what + " answered " + got + ", due is " + want);
    }

    static void fails(String what, Class<? extends RuntimeException> want, Call call) {
        String got = thrownBy(call);
        verdict(got.equals(want.getSimpleName()), what + " threw " + got + ", due is " + want.getSimpleName());
    }

    static String thrownBy(Call call) {
        try {
            call.run();
        } catch (RuntimeException e) {
            return e.getClass().getSimpleName();
        }
        return "nothing";
    }

    /** What a call answers, or the exception's name; an argument that is a flag is told as 1 or 0. */
    static String outcome(Object asked, Method method, int[] with) {
        Object[] arguments = new Object[with.length];
        for (int n = 0; n < with.length; n++) {
            boolean isFlag = method.getParameterTypes()[n] == boolean.class;
            arguments[n] = isFlag ? (Object) (with[n] == 1) : (Object) with[n];
        }
        try {
            return method.invoke(asked, arguments).toString();
        } catch (InvocationTargetException e) {
            return e.getCause().getClass().getSimpleName();
        } catch (IllegalAccessException e) {
            return e.toString();
        }
    }

    /** Ends the program, with exit code 1 if a check failed. */
    static void close() {
        System.out.println(passed + " checks passed, " + failed + " checks failed");
        System.exit(failed == 0 ? 0 : 1);
    }

    private static void verdict(boolean isRight, String message) {
        if (isRight) {
            passed++;
        } else {
            failed++;
            System.out.println(message);
        }
    }
}
