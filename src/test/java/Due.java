/** Holds answers against those that are due, and ends a test with exit code 1 if one was wrong. */
final class Due {
    private final String name;
    private int looked = 0;
    private int wrong = 0;

    Due(String name) {
        this.name = name;
    }

    void due(String call, long got, long want) {
        looked++;
        if (got != want) {
            wrong++;
            System.out.println(name + ": " + call + " answered " + got + ", due is " + want);
        }
    }

    int wrong() {
        return wrong;
    }

    void finish() {
        System.out.println(name + ": " + looked + " answers looked at, " + wrong + " wrong");
        if (wrong != 0 || looked == 0) {
            System.exit(1);
        }
    }
}
