/** Promises 1 to 4 at each bound that the document names: a new object, THE TEXT, and what it tells. */
public final class TextEdges {
    private static final int BAD = -1, STATE = -2, FULL = -3, NONE = -9, NO = -1000000;
    private static final String NAME = "n1 0 0;";
    private static final String ACT = "a0 0 1 1;";
    private static final Checks CHECKS = new Checks();

    private static void due(String call, long got, long want) {
        CHECKS.due(call, got, want);
    }

    public static void main(String[] args) {
        newObject();
        newObjectHasNothing();
        letters();
        lettersAtMost();
        clearing();
        names();
        strength();
        tired();
        marks();
        acts();
        numbersOfActs();
        nameToldAhead();
        settings();
        settingsAtFirst();
        settingsOnce();
        blanks();
        eachLetterBetweenItems();
        eachLetterBehindALetter();
        eachLetterBehindANumber();
        itemsEnd();
        firstFault();
        numbers();
        endsTooEarly();
        emptyTextTellsAllAnew();
        readAnew();
        nothingOfEarlierTexts();
        faultChangesNothing();
        CHECKS.end();
    }

    private static void newObject() {
        CHECKS.says("As told; no NAMES, no ACTS.");
        GrazedNames x = new GrazedNames();
        int[] counts = {0, 0, 2, 5, 1, 0, 0, 0};
        for (int what = 0; what < counts.length; what++) {
            due("count(" + what + ")", x.count(what), counts[what]);
        }
        CHECKS.says("No NAME GRAZES, none is LOST, no ACT is MET, all HARM is 0, at first.");
        for (int what = 0; what <= 6; what++) {
            due("now(" + what + ")", x.now(what), 0);
        }
        due("trace()", x.trace(), 0);
        CHECKS.says("THE MONTH is 0 at first; at 12 the year is OVER.");
        for (int month = 0; month < 12; month++) {
            due("month " + month + " of no names", x.month(0), 0);
        }
        due("month 12 of no names", x.month(0), STATE);
    }

    private static void newObjectHasNothing() {
        CHECKS.says("As told; no NAMES, no ACTS.");
        GrazedNames x = new GrazedNames();
        due("name(0, 0)", x.name(0, 0), BAD);
        due("act(0, 0)", x.act(0, 0), BAD);
        due("sends(0)", x.sends(0), BAD);
        due("calls(0)", x.calls(0), BAD);
        due("acts(0)", x.acts(0), BAD);
        due("undo()", x.undo(), STATE);
        due("plan(5, -1)", x.plan(5, -1), 0);
        due("plan(5, 0)", x.plan(5, 0), BAD);
        due("law(30)", x.law(30), 0);
        due("mean(0)", x.mean(0), 0);
        due("mean(1)", x.mean(1), 1);
        due("home(1, 1, 1, 0)", x.home(1, 1, 1, 0), 9);
        due("home(1, 1, 1, 1)", x.home(1, 1, 1, 1), 10);
        due("stray(-1)", x.stray(-1), 1);
        due("stray(0)", x.stray(0), BAD);
        due("found(1, 0)", x.found(1, 0), BAD);
        due("can(0)", x.can(0), 1);
        due("can(1)", x.can(1), 0);
        due("can(2)", x.can(2), 0);
        due("ask()", x.ask(), NONE);
        due("forget()", x.forget(), 0);
        due("rate(0, 0)", x.rate(0, 0), NO);
        due("back(0)", x.back(0), STATE);
        due("back(1)", x.back(1), STATE);
        due("clear()", x.clear(), 0);
        due("meadow()", x.meadow(), 0);
    }

    private static void letters() {
        CHECKS.says("A letter (0 .. 255) comes to THE TEXT: how many it has. BAD; FULL.");
        GrazedNames x = new GrazedNames();
        due("type(-1)", x.type(-1), BAD);
        due("type(256)", x.type(256), BAD);
        due("type(0)", x.type(0), 1);
        due("type(255)", x.type(255), 2);
        due("type(110 + 256), which is no n", x.type(110 + 256), BAD);
        due("type(110 + 65536), which is no n", x.type(110 + 65536), BAD);
        due("type(MIN)", x.type(Integer.MIN_VALUE), BAD);
        due("type(MAX)", x.type(Integer.MAX_VALUE), BAD);
        due("count(7)", x.count(7), 2);
    }

    private static void lettersAtMost() {
        CHECKS.says("They are a text (180 letters at most)");
        GrazedNames x = new GrazedNames();
        for (int i = 1; i <= 179; i++) {
            x.type(' ');
        }
        due("letter 180", x.type(' '), 180);
        due("letter 181", x.type(' '), FULL);
        due("letter 181, no letter", x.type(256), BAD);
        due("letter 181, no letter either", x.type(-1), BAD);
        due("count(7)", x.count(7), 180);
        due("meadow() of a full text", x.meadow(), 0);
        due("the first letter of the next", x.type('m'), 1);
        // Six names and ten acts, padded: all of the 180 letters are read.
        String most = NAME.repeat(6) + ACT.repeat(10) + "m4;r9;w10;";
        CHECKS.reads(" ".repeat(180 - most.length()) + most, 19);
        CHECKS.reads(most + " ".repeat(180 - most.length()), 19);
        CHECKS.fault(" ".repeat(178) + "m4|");
        CHECKS.fault(" ".repeat(179) + "|x");
        CHECKS.fault(" ".repeat(179) + "m|");
        CHECKS.fault("|" + "9".repeat(180));
    }

    private static void clearing() {
        CHECKS.says("THE TEXT is empty: how many letters it had.");
        GrazedNames x = Checks.meadowOf("n5 1 0;m3;");
        due("clear() of an empty text", x.clear(), 0);
        x.type('x');
        due("clear() of one letter", x.clear(), 1);
        due("count(7)", x.count(7), 0);
        Checks.tell(x, "x".repeat(180));
        due("clear() of a full text", x.clear(), 180);
        due("clear() again", x.clear(), 0);
        due("there is room again", x.type('x'), 1);
        due("what was told stays", x.name(0, 0), 5);
        due("ROOM stays", x.count(2), 3);
    }

    private static void names() {
        CHECKS.says("(6 at most): STRENGTH (1 .. 30), TIRED (0 .. STRENGTH) at first, MARKS (0 .. 4 as bits).");
        CHECKS.reads("m1;", 1);
        CHECKS.reads(NAME.repeat(5), 5);
        CHECKS.reads(NAME.repeat(6), 6);
        GrazedNames x = Checks.meadowOf(NAME.repeat(5) + "n30 29 31;");
        due("count(0)", x.count(0), 6);
        due("name(5, 0)", x.name(5, 0), 30);
        due("name(5, 1)", x.name(5, 1), 29);
        due("name(5, 2)", x.name(5, 2), 31);
        due("name(6, 0)", x.name(6, 0), BAD);
        CHECKS.says("(a seventh n, an eleventh a, m, r, w again, a NAME that there is not, "
            + "a NUMBER beyond what it may be, too)");
        CHECKS.fault(NAME.repeat(6) + "|" + NAME);
        CHECKS.fault(NAME.repeat(6) + "|n");
        CHECKS.fault(NAME.repeat(6) + "m1;  |n0;");
    }

    private static void strength() {
        CHECKS.says("STRENGTH (1 .. 30)");
        due("n1", Checks.meadowOf("n1 0 0;").name(0, 0), 1);
        due("n30", Checks.meadowOf("n30 0 0;").name(0, 0), 30);
        CHECKS.fault("n|0 0 0;");
        CHECKS.fault("n|31 0 0;");
        CHECKS.fault("n|99 0 0;");
    }

    private static void tired() {
        CHECKS.says("TIRED (0 .. STRENGTH) at first");
        int[] strengths = {1, 2, 15, 29, 30};
        for (int s : strengths) {
            due("n" + s + " 0", Checks.meadowOf("n" + s + " 0 0;").name(0, 1), 0);
            due("n" + s + " " + s, Checks.meadowOf("n" + s + " " + s + " 0;").name(0, 1), s);
            CHECKS.fault("n" + s + " |" + (s + 1) + " 0;");
        }
        CHECKS.fault("n30 0 0;n5 |6 0;");
    }

    private static void marks() {
        CHECKS.says("MARKS (0 .. 4 as bits)");
        for (int marks = 0; marks <= 31; marks++) {
            due("marks " + marks, Checks.meadowOf("n1 0 " + marks + ";").name(0, 2), marks);
        }
        CHECKS.fault("n1 0 |32;");
        CHECKS.fault("n1 0 |64;");
    }

    private static void acts() {
        CHECKS.says("(10 at most): MONTH (0 .. 11), NAME, TIRING (1 .. 9), HARM (1 .. 9).");
        CHECKS.reads(NAME + ACT.repeat(9), 10);
        CHECKS.reads(NAME + ACT.repeat(10), 11);
        GrazedNames x = Checks.meadowOf(NAME + ACT.repeat(9) + "a11 0 9 8;");
        due("count(1)", x.count(1), 10);
        due("act(9, 0)", x.act(9, 0), 11);
        due("act(9, 3)", x.act(9, 3), 8);
        due("act(10, 0)", x.act(10, 0), BAD);
        CHECKS.says("(a seventh n, an eleventh a, m, r, w again, a NAME that there is not, "
            + "a NUMBER beyond what it may be, too)");
        CHECKS.fault(NAME + ACT.repeat(10) + "|" + ACT);
        CHECKS.fault(NAME + ACT.repeat(10) + "|a");
        CHECKS.fault(NAME + ACT.repeat(10) + NAME + " |a12");
    }

    private static void numbersOfActs() {
        CHECKS.says("MONTH (0 .. 11), NAME, TIRING (1 .. 9), HARM (1 .. 9)");
        GrazedNames least = Checks.meadowOf(NAME + "a0 0 1 1;");
        GrazedNames most = Checks.meadowOf(NAME.repeat(6) + "a11 5 9 9;");
        int[] leastNumbers = {0, 0, 1, 1};
        int[] mostNumbers = {11, 5, 9, 9};
        for (int what = 0; what < 4; what++) {
            due("the least, act(0, " + what + ")", least.act(0, what), leastNumbers[what]);
            due("the most, act(0, " + what + ")", most.act(0, what), mostNumbers[what]);
        }
        CHECKS.fault(NAME + "a|12 0 1 1;");
        CHECKS.fault(NAME + "a0 0 |0 1;");
        CHECKS.fault(NAME + "a0 0 |10 1;");
        CHECKS.fault(NAME + "a0 0 1 |0;");
        CHECKS.fault(NAME + "a0 0 1 |10;");
    }

    private static void nameToldAhead() {
        CHECKS.says("a M P N H (an ACT of a NAME told ahead)");
        CHECKS.fault("a0 |0 1 1;");
        CHECKS.fault("a0 |0 1 1;" + NAME);
        CHECKS.fault(NAME + "a0 |1 1 1;" + NAME);
        CHECKS.reads(NAME + "a0 0 1 1;" + NAME + "a0 1 1 1;", 4);
        CHECKS.reads(NAME.repeat(6) + "a0 5 1 1;", 7);
        CHECKS.fault(NAME.repeat(6) + "a0 |6 1 1;");
        // The names of an earlier text are not told ahead in this one.
        GrazedNames x = Checks.meadowOf(NAME.repeat(3));
        Checks.tell(x, "n1 0 0;a0 1 1 1;");
        due("a NAME of the text before", x.meadow(), -10 - 10);
    }

    private static void settings() {
        CHECKS.says("ROOM of the meadow (1 .. 4; 2 at first), REST (1 .. 9; 5 at first), "
            + "WOLVES (0 .. 10 of 10; 1 at first).");
        due("m1", Checks.meadowOf("m1;").count(2), 1);
        due("m4", Checks.meadowOf("m4;").count(2), 4);
        CHECKS.fault("m|0;");
        CHECKS.fault("m|5;");
        due("r1", Checks.meadowOf("r1;").count(3), 1);
        due("r9", Checks.meadowOf("r9;").count(3), 9);
        CHECKS.fault("r|0;");
        CHECKS.fault("r|10;");
        due("w0", Checks.meadowOf("w0;").count(4), 0);
        due("w10", Checks.meadowOf("w10;").count(4), 10);
        CHECKS.fault("w|11;");
    }

    private static void settingsAtFirst() {
        CHECKS.says("ROOM of the meadow (1 .. 4; 2 at first), REST (1 .. 9; 5 at first), "
            + "WOLVES (0 .. 10 of 10; 1 at first).");
        GrazedNames x = Checks.meadowOf("m4;r9;w10;");
        Checks.tell(x, NAME);
        x.meadow();
        due("ROOM, if it isn't told anew", x.count(2), 2);
        due("REST, if it isn't told anew", x.count(3), 5);
        due("WOLVES, if they aren't told anew", x.count(4), 1);
    }

    private static void settingsOnce() {
        CHECKS.says("m N (ROOM), r N (REST), w N (WOLVES; once at most each)");
        CHECKS.reads("m1;r1;w1;", 3);
        CHECKS.reads("w1;m1;r1;", 3);
        CHECKS.fault("m1;|m1;");
        CHECKS.fault("m2;r1;|m");
        CHECKS.fault("r1;|r1;");
        CHECKS.fault("r5;w1;m1;|r0;");
        CHECKS.fault("w0;|w0;");
        CHECKS.fault("w1;" + NAME + " |w1;");
        GrazedNames x = Checks.meadowOf("m1;r1;w1;");
        Checks.tell(x, "m2;r2;w2;");
        due("once in each text", x.meadow(), 3);
        Checks.tell(x, "m3;m3;");
        due("twice in the next", x.meadow(), -13);
        x.clear();
        Checks.tell(x, "m3;");
        due("once behind a fault", x.meadow(), 1);
    }

    private static void blanks() {
        CHECKS.says("told letter by letter, blanks (32) between TOKENS");
        CHECKS.reads("", 0);
        CHECKS.reads(" ", 0);
        CHECKS.reads("n1 0 0;a0 0 1 1;m1;", 3);
        CHECKS.reads("   n   1   0   0   ;   a   0 0 1 1 ;m 1 ;   ", 3);
        CHECKS.fault(" |;");
        CHECKS.fault("n10|;");
        CHECKS.fault("n1 0|;");
        CHECKS.fault("m1 |0;");
        CHECKS.fault("w1 |0;");
    }

    /** What stands where an item may begin, or the text end: place 3. */
    private static void eachLetterBetweenItems() {
        CHECKS.says("TOKENS are the letters n, a, m, r, w, NUMBERS and ; .");
        for (int c = 0; c <= 255; c++) {
            int want = c == ' ' ? 1 : c == 'n' || c == 'a' || c == 'r' || c == 'w' ? -14 : -13;
            CHECKS.reads("m1;" + (char) c, want);
        }
    }

    /** What stands where a number must: place 1. */
    private static void eachLetterBehindALetter() {
        for (int c = 0; c <= 255; c++) {
            boolean fits = c == ' ' || c >= '1' && c <= '4';
            CHECKS.reads("m" + (char) c, fits ? -12 : -11);
        }
    }

    /** What stands where an item must end: place 2. */
    private static void eachLetterBehindANumber() {
        for (int c = 0; c <= 255; c++) {
            boolean digit = c >= '0' && c <= '9';
            int want = c == ' ' ? 1 : digit ? -11 : c == ';' ? -13 : -12;
            CHECKS.reads("m1" + (char) c + ";", want);
        }
    }

    private static void itemsEnd() {
        CHECKS.says("ITEMS, each ended by ; : n S T B (a NAME)");
        CHECKS.fault("|;");
        CHECKS.fault("m1;|;");
        CHECKS.fault("m1|");
        CHECKS.fault("m1|r1;");
        CHECKS.fault("m1 |2;");
        CHECKS.fault("n|;");
        CHECKS.fault("n5|;");
        CHECKS.fault("n5 5|;");
        CHECKS.fault("n5 5 0 |0;");
        CHECKS.fault("n5 5 0|n5 5 0;");
        CHECKS.fault(NAME + "a0 0 1|;");
        CHECKS.fault(NAME + "a0 0 1 1 |1;");
        CHECKS.fault("n|n");
        CHECKS.fault("|5 n");
    }

    private static void firstFault() {
        CHECKS.says("FAULT: the place of the first letter of the first TOKEN that can't stand there");
        CHECKS.fault("|x");
        CHECKS.fault("   |x");
        CHECKS.fault("n|0 9 99;");
        CHECKS.fault("n|0 99 0;");
        CHECKS.fault("n|31 99 99;");
        CHECKS.fault(NAME + "a|12 9 0 0;");
        CHECKS.fault(NAME + "a0 |9 0 10;");
        CHECKS.fault(NAME + "a0 0 |0 10;");
        CHECKS.fault("n5 |6 99;");
        CHECKS.fault("m1;|9 x 100");
        CHECKS.fault("n|x 100 00");
        CHECKS.fault("n|;x");
        CHECKS.fault("n   |31 0 0;");
        CHECKS.fault("m1;r1;w1;|w1;x");
    }

    private static void numbers() {
        CHECKS.says("of any other letter, a NUMBER above 99 or with a 0 ahead of others, that TOKEN's;");
        CHECKS.fault("n|99 0 0;");
        CHECKS.fault("n|100 0 0;");
        CHECKS.fault("n|01 0 0;");
        CHECKS.fault("n1 |00 0;");
        CHECKS.fault("n1 0 |00;");
        CHECKS.fault("n1 0 |031;");
        CHECKS.fault("w|010;");
        CHECKS.fault("|100");
        CHECKS.fault("m1 |100;");
        CHECKS.fault("m|1100;");
        CHECKS.fault("n|x1 0 0;");
        CHECKS.fault("n1|x 0 0;");
        CHECKS.fault("n1 |-1 0;");
        CHECKS.fault("n1 |+1 0;");
        // These would be 1 if they wrapped around at 2 to the 8th, 16th, 32nd and 64th.
        String[] ones = {"257", "65537", "4294967297", "18446744073709551617"};
        for (String one : ones) {
            CHECKS.fault("n|" + one + " 0 0;");
            CHECKS.fault("m|" + one + ";");
        }
        CHECKS.fault("m|1" + "0".repeat(170) + "1;");
        CHECKS.fault("m|" + "0".repeat(170) + "1;");
    }

    /** Each beginning of a good text: whole items, or a text that ends too early. */
    private static void endsTooEarly() {
        CHECKS.says("the text's length, if it ends too early.");
        String text = " n20 16 31 ; a11 0 9 9;m4;r9 ; w10;";
        int items = 0;
        boolean within = false;
        for (int cut = 0; cut <= text.length(); cut++) {
            CHECKS.reads(text.substring(0, cut), within ? -10 - cut : items);
            if (cut < text.length()) {
                char next = text.charAt(cut);
                items += next == ';' ? 1 : 0;
                within = next != ';' && (within || next != ' ');
            }
        }
        due("all items", items, 5);
        CHECKS.fault("n5    |");
        CHECKS.fault("m1     |");
    }

    private static void emptyTextTellsAllAnew() {
        CHECKS.says("THE TEXT tells all anew, and is empty then: how many ITEMS.");
        GrazedNames x = Checks.meadowOf("n9 3 1;a0 0 1 1;m1;r1;w9;");
        due("meadow() of nothing", x.meadow(), 0);
        int[] counts = {0, 0, 2, 5, 1, 0, 0, 0};
        for (int what = 0; what < counts.length; what++) {
            due("count(" + what + ")", x.count(what), counts[what]);
        }
        due("name(0, 0)", x.name(0, 0), BAD);
        due("act(0, 0)", x.act(0, 0), BAD);
        due("meadow() of nothing again", x.meadow(), 0);
    }

    private static void readAnew() {
        CHECKS.says("(Read anew: as told, MONTH 0, nothing SEEN, FOUND, IMAGES are gone.)");
        GrazedNames x = Checks.meadowOf("n9 9 1;n9 8 1;n9 9 1;a0 1 1 1;a0 0 1 9;m2;w10;");
        x.acts(0);
        x.sends(0);
        x.keep(0);
        x.month(0);
        x.sends(1);
        x.keep(1);
        x.saw(1);
        x.found(1, 1);
        x.rate(0, 0);
        Checks.tell(x, "n8 2 4;n7 7 5;n6 0 0;a1 1 2 3;");
        due("meadow()", x.meadow(), 4);
        due("THE MONTH", x.now(0), 0);
        due("who GRAZES", x.now(1), 0);
        due("who is LOST", x.now(2), 0);
        due("what is MET", x.now(3), 0);
        due("all HARM", x.now(4), 0);
        due("how many may be UNDONE", x.now(6), 0);
        due("undo()", x.undo(), STATE);
        due("SEEN", x.count(5), 0);
        due("FOUND", x.count(6), 0);
        due("letters", x.count(7), 0);
        due("back(0)", x.back(0), STATE);
        due("back(1)", x.back(1), STATE);
        int[] tired = {2, 7, 0};
        for (int p = 0; p < 3; p++) {
            due("how TIRED " + p, x.name(p, 1), tired[p]);
        }
        due("acts told", x.count(1), 1);
        due("forget()", x.forget(), 0);
        due("trace()", x.trace(), 1);
    }

    /** Of longer texts, read or not, nothing is left in the next ones. */
    private static void nothingOfEarlierTexts() {
        CHECKS.says("THE TEXT tells all anew, and is empty then: how many ITEMS.");
        GrazedNames x = new GrazedNames();
        for (int round = 0; round < 3; round++) {
            Checks.tell(x, "n1 1 1;".repeat(6) + "a0 5 9 9;".repeat(3));
            due("round " + round + ", a long text", x.meadow(), 9);
            due("round " + round + ", its names", x.count(0), 6);
            due("round " + round + ", its acts", x.count(1), 3);
            Checks.tell(x, "n1 1 1;n1 1 1;a0 1 9 9;a0 0 9 9;x");
            due("round " + round + ", a text with a fault", x.meadow(), -10 - 32);
            x.clear();
            Checks.tell(x, "n9 0 0;");
            due("round " + round + ", a short text", x.meadow(), 1);
            due("round " + round + ", one name", x.count(0), 1);
            due("round " + round + ", no act", x.count(1), 0);
            due("round " + round + ", by LAW", x.law(30), 0);
            due("round " + round + ", by PLAN", x.plan(5, -1), 0);
            x.sends(0);
            due("round " + round + ", on the mean", x.mean(0), 0);
            x.month(1);
            due("round " + round + ", in a month", x.now(4), 0);
        }
    }

    private static void faultChangesNothing() {
        CHECKS.says("-10 less FAULT: nothing changes.");
        GrazedNames x = Checks.meadowOf("n9 4 3;n8 8 5;a0 0 2 7;a1 1 1 6;m1;r8;w3;");
        x.acts(0);
        x.keep(1);
        x.sends(1);
        x.saw(7);
        x.found(3, 1);
        // Each setting and each row would be another, but the text's last letter is none.
        String faulty = "m4;r1;w9;n1 1 1;n2 2 2;n3 3 3;a5 0 5 5;a6 1 6 6;a7 2 7 7;x";
        int letters = faulty.length();
        Checks.tell(x, faulty);
        due("meadow()", x.meadow(), -10 - (letters - 1));
        due("meadow() again", x.meadow(), -10 - (letters - 1));
        int[] counts = {2, 2, 1, 8, 3, 1, 1, letters};
        for (int what = 0; what < counts.length; what++) {
            due("count(" + what + ")", x.count(what), counts[what]);
        }
        int[][] names = {{9, 6, 3, 0, 0}, {8, 8, 5, 1, 0}};
        int[][] acts = {{0, 0, 2, 7, 1}, {1, 1, 1, 6, 0}};
        for (int i = 0; i < 2; i++) {
            for (int what = 0; what < 5; what++) {
                due("name(" + i + ", " + what + ")", x.name(i, what), names[i][what]);
                due("act(" + i + ", " + what + ")", x.act(i, what), acts[i][what]);
            }
        }
        due("name(2, 0)", x.name(2, 0), BAD);
        due("act(2, 0)", x.act(2, 0), BAD);
        due("undo()", x.undo(), 1);
        due("undo() again", x.undo(), 0);
        due("back(1)", x.back(1), 0);
        due("the image is whole", x.name(0, 1), 6);
        due("clear()", x.clear(), letters);
    }
}
