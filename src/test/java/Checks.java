/** Counts what was asked and prints what was wrong. */
final class Checks {
    private final String title;
    private int asked;
    private int wrong;

    Checks(String title) {
        this.title = title;
    }

    void same(String call, long got, long due) {
        asked++;
        if (got != due) {
            wrong++;
            if (wrong <= 50) {
                System.out.println(title + ": " + call + " answered " + got + ", due is " + due);
            }
        }
    }

    void holds(String what, boolean held) {
        same(what, held ? 1 : 0, 1);
    }

    /** To be the last call of a main method. */
    void end() {
        System.out.println(title + ": " + asked + " asked, " + wrong + " wrong");
        if (wrong > 0 || asked == 0) {
            System.exit(1);
        }
    }
}
