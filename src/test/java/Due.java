/** Counts the answers that are not the ones due, and prints each of them. */
final class Due {
    private int wrong;
    private int asked;
    private String promise = "";

    void promise(String name) {
        promise = name;
    }

    /** What follows tests these words of the document. */
    void sentence(String where, String words) {
        promise = where + ", '" + words + "'";
    }

    void is(String call, long got, long want) {
        asked++;
        if (got != want) {
            wrong++;
            System.out.println(promise + ": " + call + " answered " + got + ", due is " + want);
        }
    }

    void is(String call, boolean got, boolean want) {
        asked++;
        if (got != want) {
            wrong++;
            System.out.println(promise + ": " + call + " answered " + got + ", due is " + want);
        }
    }

    void end() {
        System.out.println(asked + " answers looked at, " + wrong + " not as due");
        if (wrong != 0) {
            System.exit(1);
        }
    }
}
