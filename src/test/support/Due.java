/** Holds answers against those that are due, each under the sentence of the document that asks for it. */
final class Due {
    private String sentence = "";
    private int asked;
    private int sinceSentence;
    private int wrong;

    /** What is asked from here on stands under this sentence. */
    void sentence(String words) {
        closeSentence();
        sentence = words;
        sinceSentence = 0;
    }

    void is(String call, int got, int want) {
        asked++;
        sinceSentence++;
        if (got != want) {
            tell(call + " answered " + got + ", due is " + want);
        }
    }

    void is(String call, boolean got, boolean want) {
        is(call, got ? 1 : 0, want ? 1 : 0);
    }

    void same(String call, String got, String want) {
        asked++;
        sinceSentence++;
        if (!got.equals(want)) {
            tell(call + ":\n  told " + got + "\n  due  " + want);
        }
    }

    private void tell(String fault) {
        wrong++;
        System.out.println("\"" + sentence + "\": " + fault);
    }

    /** A sentence under which nothing was asked would seem to hold whatever the program does. */
    private void closeSentence() {
        if (!sentence.isEmpty() && sinceSentence == 0) {
            tell("nothing was asked");
        }
    }

    void end() {
        closeSentence();
        System.out.println(wrong == 0 ? "all " + asked + " answers are as due" : wrong + " answers are not as due");
        if (wrong != 0) {
            System.exit(1);
        }
    }
}
