import java.lang.reflect.InvocationTargetException;
import java.lang.reflect.Method;
import java.util.Arrays;
import java.util.Comparator;

/** What the tests share: a call is due to answer a number or to throw, and every one that does not is told. */
final class Check {
    interface Call {
        long answer();
    }

    private static int wrong = 0;
    private static String test = "";

    private Check() {
    }

    /**
     * Runs every static method of a class whose name begins with a word of what the document names, so that
     * none is left out of a list by mistake. What goes wrong is told with the method's name.
     */
    static void runAll(Class<?> tests) {
        Method[] methods = tests.getDeclaredMethods();
        Arrays.sort(methods, Comparator.comparing(Method::getName));
        int ran = 0;
        for (Method method : methods) {
            if (method.getName().matches("(promise|terms|bound)[0-9A-Z].*")) {
                test = method.getName() + ": ";
                runOne(method);
                ran++;
            }
        }
        test = "";
        dueTrue("that there are tests in " + tests.getName(), ran > 0);
        System.out.println(ran + " tests of " + tests.getName());
    }

    private static void runOne(Method method) {
        try {
            method.setAccessible(true);
            method.invoke(null);
        } catch (InvocationTargetException e) {
            same("the test", "no exception", String.valueOf(e.getCause()));
        } catch (IllegalAccessException e) {
            same("the test", "run", String.valueOf(e));
        }
    }

    static void due(String what, long want, Call call) {
        same(what, Long.toString(want), answerOf(call));
    }

    static void dueTrue(String what, boolean got) {
        same(what, "true", Boolean.toString(got));
    }

    static void dueThrow(String what, Class<? extends RuntimeException> want, Call call) {
        same(what, "throws." + want.getSimpleName(), answerOf(call));
    }

    static void same(String what, String want, String got) {
        if (!want.equals(got)) {
            wrong++;
            System.out.println(test + what + " answered " + got + ", due is " + want);
        }
    }

    static String answerOf(Call call) {
        try {
            return Long.toString(call.answer());
        } catch (RuntimeException e) {
            return "throws." + e.getClass().getSimpleName();
        }
    }

    static Call of(Runnable run) {
        return () -> {
            run.run();
            return 0;
        };
    }

    static int wrong() {
        return wrong;
    }

    static void end() {
        System.out.println(wrong == 0 ? "all answers are as due" : wrong + " answers are not as due");
        if (wrong != 0) {
            System.exit(1);
        }
    }
}
