/** Counts answers that are as due and prints those that are not. */
final class Check {
    private final String name;
    private String sentence = "";
    private int right;
    private int wrong;

    Check(String name) {
        this.name = name;
    }

    /** The sentence of the document that the next answers are due by; its promise goes ahead. */
    void sentence(String words) {
        sentence = words + ": ";
    }

    void due(String call, long got, long want) {
        if (got == want) {
            right++;
        } else {
            wrong++;
            System.out.println(name + ": " + sentence + call + " answered " + got + ", due is " + want);
        }
    }

    void holds(String what, boolean holds) {
        due(what, holds ? 1 : 0, 1);
    }

    /** Prints the closing line of a test and ends the program, with exit code 1 if an answer was wrong. */
    void close() {
        System.out.println(name + ": " + right + " passed, " + wrong + " failed");
        System.exit(wrong == 0 ? 0 : 1);
    }
}
