/** Counts the answers that are not the ones due, and tells each of them with the sentence it breaks. */
final class Check {
    private String sentence = "";
    private int wrong;
    private int asked;

    /** The document's sentence that the answers from here on are due to. */
    void sentence(String said) {
        sentence = "\"" + said + "\": ";
    }

    void due(String call, long got, long want) {
        asked++;
        if (got != want) {
            wrong++;
            System.out.println(sentence + call + " answered " + got + ", due is " + want);
        }
    }

    void due(String call, boolean got, boolean want) {
        due(call, got ? 1 : 0, want ? 1 : 0);
    }

    void due(String call, String got, String want) {
        asked++;
        if (!got.equals(want)) {
            wrong++;
            System.out.println(sentence + call + " answered\n  " + got + "\ndue is\n  " + want);
        }
    }

    int wrong() {
        return wrong;
    }

    void finish() {
        System.out.println(asked + " answers, " + wrong + " of them wrong");
        if (wrong != 0 || asked == 0) {
            System.exit(1);
        }
    }

    /** The first numbers that are not allowed on both sides, and the last ones that there are. */
    static int[] outside(int least, int most) {
        return new int[] {Integer.MIN_VALUE, least - 1, most + 1, Integer.MAX_VALUE};
    }

    static void collect(SignBoards x, String text) {
        for (int i = 0; i < text.length(); i++) {
            x.unit(text.charAt(i));
        }
    }

    static int rules(SignBoards x, String text) {
        collect(x, text);
        return x.rules();
    }

    static int name(SignBoards x, String text) {
        collect(x, text);
        return x.name();
    }
}
