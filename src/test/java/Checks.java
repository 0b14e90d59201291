import java.util.ArrayList;
import java.util.List;

/** Collects what is not as due, and tells the kind of exception that a call throws. */
final class Checks {
    interface Call {
        long answer();
    }

    private static final int SHOWN = 60;
    /** Far above what all tests of a class take; a call that fails to end must not hang .ci/run for ever. */
    private static final long LONGEST_MILLIS = 300_000;

    static {
        Thread watch = new Thread(Checks::endWhatFailsToEnd);
        watch.setDaemon(true);
        watch.start();
    }

    private int made;
    private final List<String> faults = new ArrayList<>();

    private static void endWhatFailsToEnd() {
        try {
            Thread.sleep(LONGEST_MILLIS);
        } catch (InterruptedException e) {
            return;
        }
        System.out.println("a call has not ended after " + LONGEST_MILLIS + " ms");
        Runtime.getRuntime().halt(1);
    }

    void same(String what, long want, long got) {
        made++;
        if (want != got) {
            fault(what + " answered " + got + ", due is " + want);
        }
    }

    void same(String what, String want, String got) {
        made++;
        if (!want.equals(got)) {
            fault(what + ": " + got + ", due is " + want);
        }
    }

    void fault(String text) {
        faults.add(text);
    }

    List<String> faults() {
        return faults;
    }

    /** What a call answers, as a text: its number, or throws.TheException. */
    static String told(Call call) {
        try {
            return String.valueOf(call.answer());
        } catch (RuntimeException e) {
            return "throws." + e.getClass().getSimpleName() + (isThrownByHand(e) ? "" : " by the machine");
        }
    }

    /** The machine's own exceptions are raised in the library or are of kinds that no code here throws. */
    private static boolean isThrownByHand(RuntimeException e) {
        Class<?> kind = e.getClass();
        boolean isDueKind = kind == IndexOutOfBoundsException.class
                || kind == IllegalStateException.class
                || kind == IllegalArgumentException.class;
        StackTraceElement[] trace = e.getStackTrace();
        return isDueKind && trace.length > 0 && !isOfTheLibrary(trace[0].getClassName());
    }

    private static boolean isOfTheLibrary(String className) {
        return className.startsWith("java.") || className.startsWith("jdk.");
    }

    void outOfBounds(String what, Call call) {
        same(what, "throws.IndexOutOfBoundsException", told(call));
    }

    void illegalState(String what, Call call) {
        same(what, "throws.IllegalStateException", told(call));
    }

    void illegalArgument(String what, Call call) {
        same(what, "throws.IllegalArgumentException", told(call));
    }

    void end(String name) {
        for (int i = 0; i < faults.size() && i < SHOWN; i++) {
            System.out.println(faults.get(i));
        }
        System.out.println(name + ": " + made + " checks, " + faults.size() + " wrong");
        if (!faults.isEmpty() || made == 0) {
            System.exit(1);
        }
    }
}
