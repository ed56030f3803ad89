/** Counts and prints the answers of a test that are not as due, under the sentence of the document that they break. */
final class Check {
    private int wrong = 0;
    private String sentence = "";
    private boolean told = true;

    /** What is checked from now on is a test of this sentence of the document. */
    void sentence(String words) {
        sentence = words;
        told = false;
    }

    void due(String call, long got, long want) {
        if (got != want) {
            wrong++;
            tellSentence();
            System.out.println(call + " answered " + got + ", due is " + want);
        }
    }

    void due(String call, boolean got, boolean want) {
        due(call, got ? 1 : 0, want ? 1 : 0);
    }

    private void tellSentence() {
        if (!told) {
            System.out.println("broken: " + sentence);
            told = true;
        }
    }

    void end() {
        System.out.println(wrong == 0 ? "all answers are as due" : wrong + " answers are not as due");
        if (wrong != 0) {
            System.exit(1);
        }
    }
}
