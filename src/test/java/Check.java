import java.util.NoSuchElementException;
import java.util.Objects;

/** What the tests share: they say which answer is due, and this class counts and prints the others. */
final class Check {
    static final Class<?> NO_INDEX = IndexOutOfBoundsException.class;
    static final Class<?> WRONG_NUMBER = IllegalArgumentException.class;
    static final Class<?> REJECTED = UnsupportedOperationException.class;
    static final Class<?> NO_ELEMENT = NoSuchElementException.class;
    static final Class<?> WRONG_STATE = IllegalStateException.class;
    static final Class<?> NO_MEAN = ArithmeticException.class;

    interface Call {
        Object make();
    }

    private static int passed = 0;
    private static int failed = 0;
    private static boolean currentFails = false;
    private static String currentName = "";

    private Check() {
    }

    static void test(String name, Runnable body) {
        currentName = name;
        currentFails = false;
        try {
            body.run();
        } catch (RuntimeException e) {
            wrong("stops with " + e);
        }
        if (currentFails) {
            failed++;
        } else {
            passed++;
        }
    }

    /** A class as the due answer stands for an exception of exactly this class. */
    static void due(Object want, Call call) {
        Object got = answerOf(call);
        if (!Objects.equals(want, got)) {
            wrong("answers " + got + ", due is " + want);
        }
    }

    static Object answerOf(Call call) {
        try {
            return call.make();
        } catch (RuntimeException e) {
            return e.getClass();
        }
    }

    static void wrong(String what) {
        currentFails = true;
        System.out.println(currentName + " (" + testLine() + "): " + what);
    }

    private static String testLine() {
        for (StackTraceElement frame : new Throwable().getStackTrace()) {
            String name = frame.getClassName();
            if (!name.startsWith("Check") && !name.startsWith("Script") && !name.startsWith("java.")) {
                return frame.getFileName() + ":" + frame.getLineNumber();
            }
        }
        return "?";
    }

    static void finish() {
        System.out.println(passed + " passed, " + failed + " failed");
        if (failed > 0 || passed == 0) {
            System.exit(1);
        }
    }

    static void type(BenchBroker broker, String text) {
        for (int i = 0; i < text.length(); i++) {
            broker.appendInput(text.charAt(i));
        }
    }

    static int execute(BenchBroker broker, String text) {
        type(broker, text);
        return broker.execute();
    }

    /** The output of the latest write call, which answered this length. */
    static String output(BenchBroker broker, int length) {
        StringBuilder text = new StringBuilder();
        for (int i = 0; i < length; i++) {
            text.append(broker.outputAt(i));
        }
        return text.toString();
    }
}
