/** What the tests share: an answer held against the one that is due, and texts told letter by letter. */
final class Checks {
    private int wrong;
    private int asked;

    void due(String call, long got, long want) {
        asked++;
        if (got != want) {
            wrong++;
            System.out.println(call + " answered " + got + ", due is " + want);
        }
    }

    void holds(String what, boolean so) {
        due(what, so ? 1 : 0, 1);
    }

    /** Ends the program: with exit code 1 if an answer was not as due. */
    void end() {
        System.out.println(asked + " answers, " + wrong + " of them not as due");
        System.exit(wrong == 0 ? 0 : 1);
    }

    static void tell(GrazedNames x, String text) {
        for (int i = 0; i < text.length(); i++) {
            x.type(text.charAt(i));
        }
    }

    /** A new object that has read a text. */
    static GrazedNames meadowOf(String text) {
        GrazedNames x = new GrazedNames();
        tell(x, text);
        x.meadow();
        return x;
    }
}
