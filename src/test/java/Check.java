/** Compares answers with those that are due, and ends the test with 1 if one was not. */
final class Check {
    private static final int MOST_TOLD = 40;

    private final String name;
    private String part = "";
    private int made;
    private int wrong;

    Check(String name) {
        this.name = name;
    }

    void part(String newPart) {
        part = newPart;
    }

    void due(long want, long got) {
        made++;
        if (got != want) {
            tell("answered " + got + ", due is " + want);
        }
    }

    void holds(String what, boolean does) {
        made++;
        if (!does) {
            tell("does not hold: " + what);
        }
    }

    boolean isTooWrong() {
        return wrong >= MOST_TOLD;
    }

    private void tell(String fault) {
        wrong++;
        if (wrong <= MOST_TOLD) {
            System.out.println(name + ", " + part + ", " + callersLine() + ": " + fault);
        }
    }

    private static String callersLine() {
        return StackWalker.getInstance().walk(frames -> frames
            .filter(frame -> !frame.getClassName().equals("Check") && !frame.getClassName().equals("Twins"))
            .map(frame -> frame.getFileName() + ":" + frame.getLineNumber())
            .findFirst().orElse("?"));
    }

    void close() {
        if (made == 0) {
            System.out.println(name + ": nothing was checked");
            System.exit(1);
        }
        System.out.println(name + ": " + made + " checks, " + wrong + " wrong");
        if (wrong != 0) {
            System.exit(1);
        }
    }
}
