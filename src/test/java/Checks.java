/** Counts what was asked and prints each answer that is not the one that is due. */
final class Checks {
    private int passed;
    private int failed;

    void due(String what, long got, long want) {
        if (got == want) {
            passed++;
        } else {
            failed++;
            System.out.println(what + " answered " + got + ", due is " + want);
        }
    }

    void holds(String what, boolean truth) {
        due(what, truth ? 1 : 0, 1);
    }

    /** Ends the program with 1 if an answer was wrong, or if nothing was asked. */
    void end(String name) {
        System.out.println(name + ": " + passed + " answers as due, " + failed + " not");
        if (failed > 0 || passed == 0) {
            System.exit(1);
        }
    }
}
