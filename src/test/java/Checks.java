/** Counts what is as due and tells what is not. */
final class Checks {
    private final String name;
    private int passed = 0;
    private int failed = 0;

    Checks(String name) {
        this.name = name;
    }

    void due(String what, long got, long want) {
        if (got == want) {
            passed++;
            return;
        }
        failed++;
        if (failed <= 40) {
            System.out.println(name + ": " + what + " answered " + got + ", due is " + want);
        }
    }

    void hold(String what, boolean holds) {
        due(what, holds ? 1 : 0, 1);
    }

    /** Ends the program, with exit code 1 if anything failed. */
    void close() {
        System.out.println(name + ": " + passed + " as due, " + failed + " not");
        if (failed != 0 || passed == 0) {
            System.exit(1);
        }
    }
}
