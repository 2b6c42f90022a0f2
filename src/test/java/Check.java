/** Counts and prints the answers that are not the ones due. */
final class Check {
    private int wrong = 0;
    private int asked = 0;
    private String sentence = "";

    /** From here on a wrong answer is printed with these words of the document, which it breaks. */
    void sentence(String words) {
        sentence = " [" + words + "]";
    }

    void due(String call, long got, long want) {
        asked++;
        if (got != want) {
            wrong++;
            System.out.println(call + " answered " + got + ", due is " + want + sentence);
        }
    }

    void holds(String what, boolean is) {
        asked++;
        if (!is) {
            wrong++;
            System.out.println("does not hold: " + what + sentence);
        }
    }

    void end() {
        System.out.println(asked + " answers, " + wrong + " of them wrong");
        if (wrong != 0) {
            System.exit(1);
        }
    }
}
