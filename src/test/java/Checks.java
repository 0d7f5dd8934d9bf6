/** Counts and prints the answers that are not the ones that are due. */
final class Checks {
    private final String name;
    private String sentence = "";
    private int sentences = 0;
    private int lookedAhead = 0;
    private int looked = 0;
    private int wrong = 0;

    Checks(String name) {
        this.name = name;
    }

    /** What is looked at from here on is about this sentence of the document. */
    void about(String words) {
        endSentence();
        sentence = " [" + words + "]";
        sentences++;
        lookedAhead = looked;
    }

    /* A sentence that nothing was looked at for has no test. */
    private void endSentence() {
        if (sentences > 0 && looked == lookedAhead) {
            wrong++;
            System.out.println(name + sentence + ": nothing was looked at");
        }
    }

    void due(String call, long got, long want) {
        looked++;
        if (got != want) {
            wrong++;
            if (wrong <= 50) {
                System.out.println(name + sentence + ": " + call + " answered " + got + ", due is " + want);
            }
        }
    }

    void holds(String what, boolean so) {
        due(what, so ? 1 : 0, 1);
    }

    boolean clean() {
        return wrong == 0;
    }

    void end() {
        endSentence();
        String of = sentences > 0 ? " of " + sentences + " sentences" : "";
        System.out.println(name + ": " + looked + " answers" + of + " looked at, " + wrong + " not as due");
        if (wrong != 0 || looked == 0) {
            System.exit(1);
        }
    }

    static void say(FairBoards x, String text) {
        for (int i = 0; i < text.length(); i++) {
            x.say(text.charAt(i));
        }
    }

    static FairBoards fair(String text) {
        FairBoards x = new FairBoards();
        say(x, text);
        x.read();
        return x;
    }
}
