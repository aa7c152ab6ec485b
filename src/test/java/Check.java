import java.util.LinkedHashSet;
import java.util.Set;

/** Counts the answers that are not due, and prints them. */
final class Check {
    private static final int MOST_SECONDS = 300;

    private final Set<String> wrongParts = new LinkedHashSet<>();
    private String part = "";
    private int wrong = 0;
    private int made = 0;

    /** Ends the machine as a failed test, if some call never ends. */
    static void watch() {
        Thread watch = new Thread(() -> {
            try {
                Thread.sleep(1000L * MOST_SECONDS);
            } catch (InterruptedException e) {
                return;
            }
            System.out.println("not at its end behind " + MOST_SECONDS + " seconds");
            Runtime.getRuntime().halt(1);
        });
        watch.setDaemon(true);
        watch.start();
    }

    void part(String name) {
        part = name;
    }

    void due(String call, long got, long want) {
        made++;
        if (got != want) {
            fail(call + " answered " + got + ", due is " + want);
        }
    }

    void holds(String what, boolean is) {
        made++;
        if (!is) {
            fail("it does not hold that " + what);
        }
    }

    private void fail(String what) {
        wrong++;
        wrongParts.add(part);
        System.out.println(part + ": " + what);
    }

    int made() {
        return made;
    }

    int wrong() {
        return wrong;
    }

    Set<String> wrongParts() {
        return wrongParts;
    }

    void end(String name) {
        System.out.println(name + ": " + made + " checks, " + wrong + " wrong");
        if (wrong != 0) {
            System.exit(1);
        }
    }
}
