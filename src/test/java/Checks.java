/** Counts what is not as due, and prints it. */
final class Checks {
    private final String name;
    private int looked = 0;
    private int wrong = 0;

    Checks(String name) {
        this.name = name;
    }

    void due(String what, long got, long want) {
        looked++;
        if (got == want) return;
        wrong++;
        System.out.println(name + ": " + what + " is " + got + ", due is " + want);
    }

    void due(String what, boolean holds) {
        due(what, holds ? 1 : 0, 1);
    }

    void end() {
        System.out.println(name + ": " + looked + " answers looked at, " + wrong + " wrong");
        if (wrong != 0) System.exit(1);
    }
}
