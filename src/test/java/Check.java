import java.util.Objects;

/** Counts answers and prints those that are not as due, under the sentence they belong to. */
final class Check {
    private static final int PRINTED = 50;

    private final String name;
    private String sentence;
    private int answers;
    private int answersBefore;
    private int wrong;
    private int wrongBefore;
    private int sentences;
    private int emptySentences;

    Check(String name) {
        this.name = name;
    }

    /** The answers from here on are a sentence's own test, under the promise's number and the document's words. */
    void sentence(int promise, String words) {
        endSentence();
        sentence = "promise " + promise + ": '" + words + "'";
        sentences++;
    }

    void due(String call, Object got, Object want) {
        answers++;
        if (!Objects.equals(got, want)) {
            wrong++;
            if (wrong <= PRINTED) {
                System.out.println(name + ": " + call + " answered " + got + ", due is " + want);
            }
        }
    }

    void due(String call, long got, long want) {
        due(call, Long.valueOf(got), Long.valueOf(want));
    }

    /** The last line of a test's main method. */
    void end() {
        endSentence();
        String tested = sentences == 0 ? "" : sentences + " sentences, ";
        System.out.println(name + ": " + tested + answers + " answers, " + wrong + " not as due");
        if (wrong != 0 || answers == 0 || emptySentences != 0) {
            System.exit(1);
        }
    }

    private void endSentence() {
        if (sentence != null) {
            boolean isEmpty = answers == answersBefore;
            emptySentences += isEmpty ? 1 : 0;
            String verdict = isEmpty ? "EMPTY" : wrong == wrongBefore ? "ok" : "FAILED";
            System.out.println("  " + verdict + ": " + sentence + " (" + (answers - answersBefore) + " answers)");
        }
        answersBefore = answers;
        wrongBefore = wrong;
    }
}
