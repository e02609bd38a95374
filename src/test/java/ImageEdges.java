/** Promises 23 to 27 at each bound that the document names: kinds, images, counts, THE TRACE. */
public final class ImageEdges {
    private static final int BAD = -1, STATE = -2, NO = -1000000;
    private static final Checks CHECKS = new Checks();

    private static void due(String call, long got, long want) {
        CHECKS.due(call, got, want);
    }

    public static void main(String[] args) {
        rateNumbers();
        rateEachKind();
        rateLeastAndMost();
        rateAsItIsNow();
        traceOfEachBody();
        traceGoesOn();
        traceOfTheLastCall();
        keepNumbers();
        keepAgain();
        keepNowAlone();
        imagesAreTheirOwn();
        backToNone();
        backWholly();
        backOverTheYear();
        nothingUndoneBehindBack();
        imagesGoneWhenReadAnew();
        countNumbers();
        CHECKS.end();
    }

    private static void rateNumbers() {
        CHECKS.says("RATE. NO: BAD.");
        GrazedNames x = Checks.meadowOf("n9 4 7;" + "n20 3 9;".repeat(5));
        due("rate(-1, 0)", x.rate(-1, 0), NO);
        due("rate(0, 0)", x.rate(0, 0), 9);
        due("rate(5, 5)", x.rate(5, 5), 20);
        due("rate(6, 0)", x.rate(6, 0), NO);
        due("rate(0, -1)", x.rate(0, -1), NO);
        due("rate(0, 6)", x.rate(0, 6), NO);
        due("rate(MIN, 0)", x.rate(Integer.MIN_VALUE, 0), NO);
        due("rate(MAX, 0)", x.rate(Integer.MAX_VALUE, 0), NO);
        due("rate(0, MIN)", x.rate(0, Integer.MIN_VALUE), NO);
        due("rate(0, MAX)", x.rate(0, Integer.MAX_VALUE), NO);
        due("trace() of two that were not refused", x.trace(), 1 + 100001);
        GrazedNames none = new GrazedNames();
        due("no names", none.rate(0, 0), NO);
        due("trace()", none.trace(), 0);
    }

    private static void rateEachKind() {
        CHECKS.says("NAME its STRENGTH (1). MARY up, and how TIRED it is (10). "
            + "COLT up less how many MARKS it has (100). PONY twice up (1000). MULE up, and its number (10000). "
            + "THORN up, and all HARM (100000).");
        GrazedNames x = Checks.meadowOf("n9 4 7;n9 0 0;n20 3 9;a0 0 1 6;a0 0 1 8;");
        x.month(0);
        int[] rates = {20, 20 + 3, 20 - 2, 2 * (20 + 3), 20 - 2 + 2, 20 + 6 + 8};
        for (int kind = 0; kind <= 5; kind++) {
            due("rate(" + kind + ", 2)", x.rate(kind, 2), rates[kind]);
        }
    }

    private static void rateLeastAndMost() {
        CHECKS.says("COLT up less how many MARKS it has (100).");
        GrazedNames least = Checks.meadowOf("n1 0 31;a0 0 9 1;");
        due("below 0", least.rate(2, 0), -4);
        due("MULE below 0", least.rate(4, 0), -4);
        due("PONY", least.rate(3, 0), 2);
        due("no harm yet", least.rate(5, 0), 1);
        GrazedNames most = Checks.meadowOf("n1 0 0;".repeat(5) + "n30 30 0;" + "a0 5 9 9;".repeat(10));
        most.month(0);
        int[] rates = {30, 60, 30, 120, 35, 120};
        for (int kind = 0; kind <= 5; kind++) {
            due("the most, rate(" + kind + ", 5)", most.rate(kind, 5), rates[kind]);
        }
    }

    private static void rateAsItIsNow() {
        CHECKS.says("MARY up, and how TIRED it is (10).");
        GrazedNames x = Checks.meadowOf("n9 1 0;a0 0 3 2;w10;");
        due("at first", x.rate(1, 0), 10);
        x.acts(0);
        due("behind an act", x.rate(1, 0), 13);
        x.undo();
        due("undone", x.rate(1, 0), 10);
        x.sends(0);
        x.month(0);
        due("lost and rested", x.rate(1, 0), 9);
        due("with harm", x.rate(5, 0), 11);
        x.undo();
        due("without", x.rate(5, 0), 9);
    }

    private static void traceOfEachBody() {
        CHECKS.says("(numbers in brackets are added to THE TRACE, 0 at first, as often as rate() asks that body: "
            + "each once; \"up\" is what the KIND above does)");
        int[] traces = {1, 11, 101, 1011, 10101, 100001};
        for (int kind = 0; kind <= 5; kind++) {
            GrazedNames x = Checks.meadowOf("n9 4 7;");
            due("at first", x.trace(), 0);
            x.rate(kind, 0);
            due("kind " + kind, x.trace(), traces[kind]);
            due("asking for it adds nothing", x.trace(), traces[kind]);
            x.rate(kind, 1);
            x.rate(6, 0);
            x.rate(-1, 0);
            due("nor does a refused one", x.trace(), traces[kind]);
        }
    }

    private static void traceGoesOn() {
        CHECKS.says("THE TRACE.");
        GrazedNames x = Checks.meadowOf("n9 4 7;");
        x.keep(0);
        for (int i = 1; i <= 400; i++) {
            x.rate(5, 0);
        }
        due("400 times the greatest", x.trace(), 40000400L);
        x.back(0);
        due("an image does not keep it", x.trace(), 40000400L);
        x.sends(0);
        x.rate(0, 0);
        x.undo();
        due("it is not undone", x.trace(), 40000401L);
        x.forget();
        x.meadow();
        due("it goes on behind another text", x.trace(), 40000401L);
    }

    private static void traceOfTheLastCall() {
        CHECKS.says("An object is used for at most 512 calls after it has been made");
        GrazedNames x = Checks.meadowOf("n9 4 7;");
        for (int call = 9; call <= 511; call++) {
            x.rate(5, 0);
        }
        due("call 512", x.trace(), 503L * 100001);
    }

    private static void keepNumbers() {
        CHECKS.says("An IMAGE is kept: THE MONTH. BAD.");
        GrazedNames x = Checks.meadowOf("n9 0 0;");
        due("keep(-1)", x.keep(-1), BAD);
        due("keep(2)", x.keep(2), BAD);
        due("keep(MIN)", x.keep(Integer.MIN_VALUE), BAD);
        due("keep(MAX)", x.keep(Integer.MAX_VALUE), BAD);
        due("none was kept, back(0)", x.back(0), STATE);
        due("none was kept, back(1)", x.back(1), STATE);
        due("keep(0)", x.keep(0), 0);
        x.month(0);
        due("keep(1)", x.keep(1), 1);
        GrazedNames none = new GrazedNames();
        due("no names, keep(0)", none.keep(0), 0);
        due("no names, back(0)", none.back(0), 0);
        due("no names, back(1)", none.back(1), STATE);
    }

    private static void keepAgain() {
        CHECKS.says("An IMAGE is kept: THE MONTH.");
        GrazedNames x = Checks.meadowOf("n9 0 0;");
        x.keep(0);
        x.keep(1);
        x.month(0);
        due("keep(0) again", x.keep(0), 1);
        x.month(0);
        due("back(0) to the later one", x.back(0), 1);
        due("back(1) to the other", x.back(1), 0);
    }

    private static void keepNowAlone() {
        CHECKS.says("IMAGES 0, 1 keep NOW (THE MONTH, TIRED, who GRAZES, is LOST, what is MET, all HARM); nothing else");
        GrazedNames x = Checks.meadowOf("n9 0 0;n9 0 0;");
        x.saw(1);
        x.found(1, 1);
        x.type('m');
        x.sends(0);
        x.keep(0);
        due("keep() can't be undone, nor does it hinder that", x.now(6), 1);
        x.saw(2);
        x.found(2, 1);
        x.type('1');
        x.rate(0, 0);
        x.back(0);
        due("SEEN", x.count(5), 2);
        due("FOUND", x.count(6), 2);
        due("letters", x.count(7), 2);
        due("trace()", x.trace(), 1);
        x.forget();
        x.clear();
        x.back(0);
        due("SEEN is forgotten", x.count(5), 0);
        due("FOUND is forgotten", x.count(6), 0);
        due("letters are gone", x.count(7), 0);
        due("who grazes", x.now(1), 1);
    }

    private static void imagesAreTheirOwn() {
        CHECKS.says("All of that becomes as an IMAGE has it: THE MONTH.");
        GrazedNames x = Checks.meadowOf("n9 5 0;n9 0 0;a0 1 3 4;r2;w0;");
        x.keep(0);
        for (int round = 0; round < 3; round++) {
            x.sends(0);
            x.acts(0);
            x.month(0);
            x.month(0);
            due("round " + round + ", changed", x.name(0, 1), 1);
            due("round " + round + ", back(0)", x.back(0), 0);
            due("round " + round + ", how tired", x.name(0, 1), 5);
            due("round " + round + ", the other", x.name(1, 1), 0);
            due("round " + round + ", who grazes", x.now(1), 0);
            due("round " + round + ", what is met", x.now(3), 0);
        }
    }

    private static void backToNone() {
        CHECKS.says("BAD; STATE: none was kept.");
        GrazedNames x = Checks.meadowOf("n9 5 0;");
        x.sends(0);
        due("back(-1)", x.back(-1), BAD);
        due("back(2)", x.back(2), BAD);
        due("back(MIN)", x.back(Integer.MIN_VALUE), BAD);
        due("back(MAX)", x.back(Integer.MAX_VALUE), BAD);
        due("back(0)", x.back(0), STATE);
        x.keep(1);
        due("back(0), though the other was kept", x.back(0), STATE);
        due("a refused one hinders no undo()", x.now(6), 1);
        due("who grazes", x.now(1), 1);
        due("undo()", x.undo(), 0);
        due("undo() is no back()", x.back(1), 0);
        due("who grazes as kept", x.now(1), 1);
    }

    private static void backWholly() {
        CHECKS.says("keep NOW (THE MONTH, TIRED, who GRAZES, is LOST, what is MET, all HARM)");
        GrazedNames x = Checks.meadowOf("n9 5 0;n9 0 0;n9 9 0;a0 1 3 4;a0 0 1 6;a2 1 3 8;w10;r2;");
        x.acts(0);
        x.sends(2);
        x.month(0);
        x.sends(1);
        x.keep(1);
        x.calls(1);
        x.month(0);
        x.acts(2);
        x.month(0);
        x.sends(0);
        due("back(1)", x.back(1), 1);
        int[] now = {1, 2, 4, 1, 6};
        int[] tired = {5, 3, 7};
        for (int what = 0; what < now.length; what++) {
            due("now(" + what + ")", x.now(what), now[what]);
        }
        for (int p = 0; p < tired.length; p++) {
            due("name(" + p + ", 1)", x.name(p, 1), tired[p]);
        }
    }

    private static void backOverTheYear() {
        CHECKS.says("All of that becomes as an IMAGE has it: THE MONTH.");
        GrazedNames x = Checks.meadowOf("n9 5 0;a11 0 1 5;");
        due("keep(0)", x.keep(0), 0);
        Checks.months(x, 12);
        due("keep(1) of a year that is over", x.keep(1), 12);
        due("back(0)", x.back(0), 0);
        due("month(0)", x.month(0), 0);
        due("back(1)", x.back(1), 12);
        due("month(0) when it is over", x.month(0), STATE);
        due("its harm", x.now(4), 5);
    }

    private static void nothingUndoneBehindBack() {
        CHECKS.says("nothing else (nothing can be UNDONE behind back())");
        GrazedNames x = Checks.meadowOf("n9 5 0;w0;");
        Checks.months(x, 11);
        x.keep(0);
        due("ten may be", x.now(6), 10);
        due("back(0)", x.back(0), 11);
        due("none may be", x.now(6), 0);
        due("undo()", x.undo(), STATE);
        due("the month stays", x.now(0), 11);
        x.sends(0);
        due("what is done then may be", x.now(6), 1);
        due("undo() of it", x.undo(), 0);
        due("and no more", x.undo(), STATE);
    }

    private static void imagesGoneWhenReadAnew() {
        CHECKS.says("nothing SEEN, FOUND, IMAGES are gone.");
        GrazedNames x = Checks.meadowOf("n9 5 0;");
        x.keep(0);
        x.keep(1);
        x.type('x');
        due("meadow() with a fault", x.meadow(), -10);
        due("back(0), still there", x.back(0), 0);
        due("back(1), still there", x.back(1), 0);
        x.clear();
        due("meadow() of nothing", x.meadow(), 0);
        due("back(0), gone", x.back(0), STATE);
        due("back(1), gone", x.back(1), STATE);
        due("keep(1)", x.keep(1), 0);
        due("back(1), kept anew", x.back(1), 0);
        due("back(0), still gone", x.back(0), STATE);
    }

    private static void countNumbers() {
        CHECKS.says("0 NAMES, 1 ACTS, 2 ROOM, 3 REST, 4 WOLVES, 5 SEEN, 6 FOUND, 7 letters of THE TEXT. BAD.");
        GrazedNames x = Checks.meadowOf("n1 0 0;".repeat(6) + "a0 0 1 1;".repeat(10) + "m4;r9;w10;");
        for (int i = 0; i < 6; i++) {
            x.saw(0);
            x.found(1, 0);
        }
        Checks.tell(x, "x".repeat(180));
        int[] most = {6, 10, 4, 9, 10, 6, 6, 180};
        for (int what = 0; what < most.length; what++) {
            due("the most, count(" + what + ")", x.count(what), most[what]);
        }
        due("count(-1)", x.count(-1), BAD);
        due("count(8)", x.count(8), BAD);
        due("count(MIN)", x.count(Integer.MIN_VALUE), BAD);
        due("count(MAX)", x.count(Integer.MAX_VALUE), BAD);
        GrazedNames least = Checks.meadowOf("n1 0 0;m1;r1;w0;");
        int[] few = {1, 0, 1, 1, 0, 0, 0, 0};
        for (int what = 0; what < few.length; what++) {
            due("few, count(" + what + ")", least.count(what), few[what]);
        }
    }
}
