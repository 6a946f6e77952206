/** Counts what was asked and prints what was wrong. */
final class Checks {
    private final String title;
    private String because = "";
    private int asked;
    private int wrong;

    Checks(String title) {
        this.title = title;
    }

    /** What is asked from here on is due because of these words of the document. */
    void about(String where, String words) {
        because = where + ", '" + words + "': ";
        holds("the document still says so", Document.says(where, words));
    }

    void same(String call, long got, long due) {
        asked++;
        if (got != due) {
            wrong++;
            if (wrong <= 50) {
                System.out.println(title + ": " + because + call + " answered " + got + ", due is " + due);
            }
        }
    }

    void holds(String what, boolean held) {
        same(what, held ? 1 : 0, 1);
    }

    /** To be the last call of a main method. */
    void end() {
        System.out.println(title + ": " + asked + " asked, " + wrong + " wrong");
        if (wrong > 0 || asked == 0) {
            System.exit(1);
        }
    }
}
