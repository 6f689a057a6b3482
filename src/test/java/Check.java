/** Counts the answers of one test that are not as due. */
final class Check {
    private final String test;
    private String sentence = "";
    private int asked;
    private int askedHere = 1;
    private int wrong;

    Check(String test) {
        this.test = test;
    }

    /** What is asked from here on stands for these words of the document. */
    void sentence(String where, String words) {
        endSentence();
        sentence = where + ", \"" + words + "\": ";
        askedHere = 0;
    }

    void due(String what, long got, long want) {
        asked++;
        askedHere++;
        if (got != want) {
            wrong++;
            System.out.println(test + ": " + sentence + what + " answered " + got + ", due is " + want);
        }
    }

    void due(String what, boolean got, boolean want) {
        due(what, got ? 1 : 0, want ? 1 : 0);
    }

    /** The children of an object, or of THE BIN (NONE), are these and no others. */
    void children(String what, BinTrees x, int node, int of, int... want) {
        for (int k = 0; k < want.length; k++) {
            due(what + ", child " + k, x.child(node, of, k), want[k]);
        }
        due(what + ", behind the last child", x.child(node, of, want.length), BinTrees.NONE);
    }

    boolean anyWrong() {
        return wrong > 0;
    }

    /** Ends the test: with exit code 1 if there was a wrong answer, or none was asked for. */
    void end() {
        endSentence();
        System.out.println(test + ": " + asked + " answers, " + wrong + " wrong");
        if (wrong > 0 || asked == 0) {
            System.exit(1);
        }
    }

    private void endSentence() {
        if (askedHere == 0) {
            wrong++;
            System.out.println(test + ": " + sentence + "nothing was asked");
        }
    }
}
