import java.math.BigInteger;

/** Promises 5 to 12 at each bound that the document names: what is, what is done, and what is undone. */
public final class DoneEdges {
    private static final int BAD = -1, STATE = -2;
    private static final String NAME = "n9 0 0;";
    private static final Checks CHECKS = new Checks();

    private static void due(String call, long got, long want) {
        CHECKS.due(call, got, want);
    }

    public static void main(String[] args) {
        whichNames();
        whichActs();
        whatOfNow();
        sentWhileThereIsRoom();
        sentOnce();
        sentWhenLost();
        sentInAYearThatIsOver();
        called();
        calledWhenLost();
        actedAsMuchAsItBears();
        actedOnce();
        actedInItsMonth();
        actedWhenAway();
        monthsDraws();
        yearIsOver();
        harmOfWhatIsNotMet();
        mostHarm();
        rested();
        drawBelowWolves();
        drawOfGreatNumbers();
        lostInIt();
        undoneEach();
        undoneTen();
        undoneNotRefused();
        undoneNothingElse();
        undoneOver();
        CHECKS.end();
    }

    private static void whichNames() {
        CHECKS.says("Of a NAME: 0 STRENGTH, 1 TIRED, 2 MARKS (bits), 3 whether it GRAZES (1, 0), "
            + "4 whether LOST (1, 0). BAD.");
        GrazedNames x = Checks.meadowOf("n9 4 21;" + NAME.repeat(4) + "n30 1 31;");
        int[] first = {9, 4, 21, 0, 0};
        int[] last = {30, 1, 31, 0, 0};
        for (int what = 0; what <= 4; what++) {
            due("name(0, " + what + ")", x.name(0, what), first[what]);
            due("name(5, " + what + ")", x.name(5, what), last[what]);
            due("name(-1, " + what + ")", x.name(-1, what), BAD);
            due("name(6, " + what + ")", x.name(6, what), BAD);
        }
        due("name(0, -1)", x.name(0, -1), BAD);
        due("name(0, 5)", x.name(0, 5), BAD);
        due("name(5, 5)", x.name(5, 5), BAD);
        due("name(MIN, 0)", x.name(Integer.MIN_VALUE, 0), BAD);
        due("name(MAX, 0)", x.name(Integer.MAX_VALUE, 0), BAD);
        due("name(1, 0) of one", Checks.meadowOf(NAME).name(1, 0), BAD);
        due("name(0, 0) of one", Checks.meadowOf(NAME).name(0, 0), 9);
        x.sends(5);
        due("name(5, 3) when sent", x.name(5, 3), 1);
        due("name(4, 3) when not", x.name(4, 3), 0);
    }

    private static void whichActs() {
        CHECKS.says("Of an ACT: 0 MONTH, 1 NAME, 2 TIRING, 3 HARM, 4 whether MET (1, 0). BAD.");
        GrazedNames x = Checks.meadowOf(NAME + NAME + "a0 1 2 3;" + "a1 0 1 1;".repeat(8) + "a0 0 9 8;");
        int[] first = {0, 1, 2, 3, 0};
        int[] last = {0, 0, 9, 8, 0};
        for (int what = 0; what <= 4; what++) {
            due("act(0, " + what + ")", x.act(0, what), first[what]);
            due("act(9, " + what + ")", x.act(9, what), last[what]);
            due("act(-1, " + what + ")", x.act(-1, what), BAD);
            due("act(10, " + what + ")", x.act(10, what), BAD);
        }
        due("act(0, -1)", x.act(0, -1), BAD);
        due("act(0, 5)", x.act(0, 5), BAD);
        due("act(MIN, 0)", x.act(Integer.MIN_VALUE, 0), BAD);
        due("act(MAX, 0)", x.act(Integer.MAX_VALUE, 0), BAD);
        due("act(0, 0) of none", Checks.meadowOf(NAME).act(0, 0), BAD);
        x.acts(9);
        due("act(9, 4) when met", x.act(9, 4), 1);
        due("act(8, 4) when not", x.act(8, 4), 0);
        due("now(3)", x.now(3), 1 << 9);
    }

    private static void whatOfNow() {
        CHECKS.says("0 THE MONTH, 1 who GRAZES (bits), 2 who is LOST (bits), 3 what is MET (bits), 4 all HARM, "
            + "5 BEST, 6 how many may be UNDONE. BAD.");
        GrazedNames x = Checks.meadowOf(NAME.repeat(6) + "a0 0 1 5;a0 1 1 6;m4;w10;");
        due("now(-1)", x.now(-1), BAD);
        due("now(7)", x.now(7), BAD);
        x.acts(1);
        for (int p = 2; p < 6; p++) {
            x.sends(p);
        }
        due("now(1)", x.now(1), 60);
        due("now(3)", x.now(3), 2);
        x.month(0);
        due("now(0)", x.now(0), 1);
        due("now(1) of lost ones", x.now(1), 0);
        due("now(2)", x.now(2), 60);
        due("now(4)", x.now(4), 5);
        due("now(6)", x.now(6), 6);
    }

    private static void sentWhileThereIsRoom() {
        CHECKS.says("SENT: a NAME that does not GRAZE, is not LOST, if there is ROOM: it GRAZES.");
        for (int room = 1; room <= 4; room++) {
            GrazedNames x = Checks.meadowOf(NAME.repeat(6) + "m" + room + ";w0;");
            for (int p = 0; p < room; p++) {
                due("room " + room + ", sends(" + p + ")", x.sends(p), p + 1);
            }
            due("room " + room + ", one too many", x.sends(5), STATE);
            due("room " + room + ", who GRAZES", x.now(1), (1 << room) - 1);
            due("room " + room + ", how many may be UNDONE", x.now(6), room);
            due("room " + room + ", BAD ahead of STATE", x.sends(6), BAD);
            x.month(0);
            due("room " + room + ", still none the next month", x.sends(5), STATE);
            x.calls(0);
            due("room " + room + ", room again", x.sends(5), room);
        }
        GrazedNames few = Checks.meadowOf(NAME.repeat(3) + "m4;");
        due("sends(0)", few.sends(0), 1);
        due("sends(1)", few.sends(1), 2);
        due("sends(2)", few.sends(2), 3);
        due("sends(3), though there is room", few.sends(3), BAD);
        due("sends(-1)", few.sends(-1), BAD);
    }

    private static void sentOnce() {
        CHECKS.says("SENT: how many GRAZE. BAD; STATE: it does, is LOST, there is no ROOM.");
        GrazedNames x = Checks.meadowOf(NAME.repeat(2) + "m4;w0;");
        due("sends(0)", x.sends(0), 1);
        due("sends(0) again, though there is room", x.sends(0), STATE);
        due("how many may be UNDONE", x.now(6), 1);
        x.month(0);
        due("sends(0) the next month", x.sends(0), STATE);
        x.calls(0);
        due("sends(0) when called", x.sends(0), 1);
    }

    private static void sentWhenLost() {
        CHECKS.says("SENT: how many GRAZE. BAD; STATE: it does, is LOST, there is no ROOM.");
        GrazedNames x = Checks.meadowOf(NAME.repeat(2) + "m1;w10;");
        x.sends(0);
        x.month(0);
        due("sends(0) when lost, though there is room", x.sends(0), STATE);
        due("who GRAZES", x.now(1), 0);
        due("a lost one takes no room", x.sends(1), 1);
    }

    private static void sentInAYearThatIsOver() {
        CHECKS.says("SENT: how many GRAZE. BAD; STATE: it does, is LOST, there is no ROOM.");
        GrazedNames x = Checks.meadowOf(NAME.repeat(2) + "m1;w0;");
        Checks.months(x, 12);
        due("sends(0) when the year is over", x.sends(0), 1);
        due("sends(1) when the year is over", x.sends(1), STATE);
        due("calls(0) when the year is over", x.calls(0), 0);
    }

    private static void called() {
        CHECKS.says("CALLED: how many GRAZE. BAD; STATE: it does not.");
        GrazedNames x = Checks.meadowOf("n9 8 0;" + NAME.repeat(5) + "m4;");
        due("calls(0) of none that grazes", x.calls(0), STATE);
        due("how many may be UNDONE", x.now(6), 0);
        for (int p = 0; p < 4; p++) {
            x.sends(p);
        }
        due("calls(4), who was not sent", x.calls(4), STATE);
        due("calls(6)", x.calls(6), BAD);
        due("calls(-1)", x.calls(-1), BAD);
        for (int p = 0; p < 4; p++) {
            due("calls(" + p + ")", x.calls(p), 3 - p);
            due("calls(" + p + ") again", x.calls(p), STATE);
        }
        due("who was called in its month has not rested", x.name(0, 1), 8);
        x.month(0);
        due("nor at its end", x.name(0, 1), 8);
    }

    private static void calledWhenLost() {
        CHECKS.says("and LOST (it GRAZES no more), if DRAW is below WOLVES");
        GrazedNames x = Checks.meadowOf(NAME + "w10;");
        x.sends(0);
        x.month(0);
        due("calls(0)", x.calls(0), STATE);
        due("name(0, 3)", x.name(0, 3), 0);
        due("name(0, 4)", x.name(0, 4), 1);
    }

    private static void actedAsMuchAsItBears() {
        CHECKS.says("TIRED and TIRING together no more than STRENGTH");
        int[] strengths = {1, 9, 10, 30};
        for (int s : strengths) {
            for (int tiring = 1; tiring <= 9 && tiring <= s; tiring++) {
                String act = "a0 0 " + tiring + " 1;";
                GrazedNames just = Checks.meadowOf("n" + s + " " + (s - tiring) + " 0;" + act);
                due("just as much: " + tiring + " of " + s, just.acts(0), s);
                due("met", just.act(0, 4), 1);
                GrazedNames more = Checks.meadowOf("n" + s + " " + (s - tiring + 1) + " 0;" + act);
                due("one too much: " + tiring + " of " + s, more.acts(0), STATE);
                due("not met", more.act(0, 4), 0);
                due("as tired", more.name(0, 1), s - tiring + 1);
                due("nothing to be undone", more.now(6), 0);
            }
        }
    }

    private static void actedOnce() {
        CHECKS.says("ACTED: how TIRED its NAME is. BAD; STATE (as told).");
        GrazedNames x = Checks.meadowOf("n30 0 0;n30 4 0;a0 1 9 1;a0 1 9 1;");
        due("acts(-1)", x.acts(-1), BAD);
        due("acts(2)", x.acts(2), BAD);
        due("acts(0)", x.acts(0), 13);
        due("acts(0) again", x.acts(0), STATE);
        due("acts(1), like it", x.acts(1), 22);
        due("the other name", x.name(0, 1), 0);
        due("acts(0) of none", Checks.meadowOf(NAME).acts(0), BAD);
    }

    private static void actedInItsMonth() {
        CHECKS.says("ACTED: an ACT of THE MONTH that is not MET, its NAME not LOST, not GRAZING");
        GrazedNames x = Checks.meadowOf("n30 0 0;a0 0 1 1;a1 0 1 1;a11 0 1 1;");
        due("month 0, acts(1)", x.acts(1), STATE);
        due("month 0, acts(0)", x.acts(0), 1);
        x.month(0);
        due("month 1, acts(0), met", x.acts(0), STATE);
        due("month 1, acts(2)", x.acts(2), STATE);
        Checks.months(x, 1);
        due("month 2, acts(1), too late", x.acts(1), STATE);
        Checks.months(x, 8);
        due("month 10, acts(2), too early", x.acts(2), STATE);
        x.month(0);
        due("month 11, acts(2)", x.acts(2), 2);
        x.undo();
        x.month(0);
        due("the year is over, acts(2)", x.acts(2), STATE);
        due("BAD ahead of STATE", x.acts(3), BAD);
    }

    private static void actedWhenAway() {
        CHECKS.says("ACTED: an ACT of THE MONTH that is not MET, its NAME not LOST, not GRAZING");
        GrazedNames x = Checks.meadowOf("n9 0 0;n9 0 0;a0 0 1 1;a0 1 1 1;a1 0 1 1;a1 1 1 1;w10;");
        x.sends(0);
        due("its name grazes", x.acts(0), STATE);
        due("the other's act", x.acts(1), 1);
        x.calls(0);
        due("called back", x.acts(0), 1);
        x.sends(0);
        due("who has acted may still be sent", x.now(1), 1);
        x.month(0);
        due("its name is lost", x.acts(2), STATE);
        due("the other's", x.acts(3), 2);
    }

    private static void monthsDraws() {
        CHECKS.says("A MONTH goes by with z (0 .. 9999)");
        GrazedNames x = Checks.meadowOf(NAME + "a0 0 1 1;");
        due("month(-1)", x.month(-1), BAD);
        due("month(10000)", x.month(10000), BAD);
        due("month(MIN)", x.month(Integer.MIN_VALUE), BAD);
        due("month(MAX)", x.month(Integer.MAX_VALUE), BAD);
        due("no month went by", x.now(0), 0);
        due("no harm came", x.now(4), 0);
        due("nothing may be undone", x.now(6), 0);
        due("month(0)", x.month(0), 0);
        due("month(9999)", x.month(9999), 0);
        due("two months went by", x.now(0), 2);
    }

    private static void yearIsOver() {
        CHECKS.says("A MONTH: how many are LOST in it. BAD; STATE: the year is OVER.");
        GrazedNames x = Checks.meadowOf("n9 9 0;a11 0 1 7;w0;");
        x.sends(0);
        for (int month = 0; month < 11; month++) {
            x.month(month);
        }
        due("the last month", x.now(0), 11);
        due("no harm yet", x.now(4), 0);
        due("it goes by", x.month(9999), 0);
        due("the year is over", x.now(0), 12);
        due("harm of the last month", x.now(4), 7);
        due("month() again", x.month(0), STATE);
        due("month(-1), BAD ahead of STATE", x.month(-1), BAD);
        due("month(10000), BAD ahead of STATE", x.month(10000), BAD);
        due("still 12", x.now(0), 12);
        due("no more harm", x.now(4), 7);
        due("no more may be undone", x.now(6), 10);
        due("it may be undone", x.undo(), 9);
        due("the last month again", x.now(0), 11);
        due("it goes by again", x.month(0), 0);
    }

    private static void harmOfWhatIsNotMet() {
        CHECKS.says("HARM of each ACT of THE MONTH that is not MET comes to all HARM");
        GrazedNames x = Checks.meadowOf("n9 0 0;n9 0 0;a0 0 1 1;a0 1 1 2;a1 0 1 4;a1 1 1 8;a2 0 1 9;w10;");
        x.acts(1);
        x.sends(1);
        x.month(0);
        due("one of two was met", x.now(4), 1);
        x.month(0);
        due("of a lost name too", x.now(4), 1 + 4 + 8);
        due("what is met stays so", x.now(3), 2);
        x.acts(4);
        x.month(0);
        due("all of the month were met", x.now(4), 13);
        Checks.months(x, 9);
        due("none is counted twice", x.now(4), 13);
    }

    private static void mostHarm() {
        CHECKS.says("HARM of each ACT of THE MONTH that is not MET comes to all HARM");
        GrazedNames x = Checks.meadowOf(NAME + "a0 0 9 9;".repeat(10));
        x.month(0);
        due("ten acts of 9", x.now(4), 90);
        GrazedNames none = Checks.meadowOf(NAME);
        Checks.months(none, 12);
        due("no acts", none.now(4), 0);
    }

    private static void rested() {
        CHECKS.says("each NAME that GRAZES is REST less TIRED (0 at least)");
        for (int rest = 1; rest <= 9; rest++) {
            GrazedNames x = Checks.meadowOf("n30 " + (rest + 1) + " 0;n30 " + rest + " 0;n30 " + (rest - 1)
                + " 0;n30 0 0;n30 30 0;m4;w0;r" + rest + ";");
            for (int p = 0; p < 4; p++) {
                x.sends(p);
            }
            x.month(0);
            due("rest " + rest + ", one more", x.name(0, 1), 1);
            due("rest " + rest + ", just as much", x.name(1, 1), 0);
            due("rest " + rest + ", one less", x.name(2, 1), 0);
            due("rest " + rest + ", not tired", x.name(3, 1), 0);
            due("rest " + rest + ", who does not graze", x.name(4, 1), 30);
            x.month(0);
            due("rest " + rest + ", grazing on", x.name(0, 1), 0);
        }
    }

    private static int draw(int z, int p, int month) {
        BigInteger q = BigInteger.valueOf(7919L * z + 6151L * p + 12289L * month + 1);
        return q.multiply(q).mod(BigInteger.valueOf(65521)).intValue() / 8 % 10;
    }

    /** For each name, in the first month and the last, a z for each DRAW: WOLVES as many spare it, one more does not. */
    private static void drawBelowWolves() {
        CHECKS.says("((q times q) modulo 65521) by 8, cut, modulo 10, q being 7919 z, 6151 times the NAME, "
            + "12289 times THE MONTH and 1 together");
        for (int p = 0; p < 6; p++) {
            for (int month = 0; month <= 11; month += 11) {
                for (int d = 0; d <= 9; d++) {
                    int z = 0;
                    while (draw(z, p, month) != d) {
                        z++;
                    }
                    due("DRAW " + d + " of as many", lostBy(p, month, z, d), 0);
                    due("DRAW " + d + " of one more", lostBy(p, month, z, d + 1), 1);
                }
            }
        }
    }

    private static int lostBy(int p, int month, int z, int wolves) {
        GrazedNames x = Checks.meadowOf(NAME.repeat(6) + "w" + wolves + ";");
        Checks.months(x, month);
        x.sends(p);
        return x.month(z);
    }

    /** q times q is far above what an int holds. */
    private static void drawOfGreatNumbers() {
        CHECKS.says("((q times q) modulo 65521) by 8, cut, modulo 10");
        for (int z = 9900; z <= 9999; z++) {
            int wolves = draw(z, 5, 11);
            due("z " + z + ", as many", lostBy(5, 11, z, wolves), 0);
            due("z " + z + ", one more", lostBy(5, 11, z, wolves + 1), 1);
        }
    }

    private static void lostInIt() {
        CHECKS.says("A MONTH: how many are LOST in it.");
        GrazedNames x = Checks.meadowOf(NAME.repeat(6) + "m4;w10;");
        due("none grazes", x.month(0), 0);
        for (int p = 0; p < 4; p++) {
            x.sends(p);
        }
        due("four at once", x.month(0), 4);
        due("not those of earlier months", x.month(0), 0);
        x.sends(4);
        x.sends(5);
        due("the two that are left", x.month(0), 2);
        due("all are lost", x.now(2), 63);
        due("none to be sent", x.sends(0), STATE);
        GrazedNames tired = Checks.meadowOf("n9 9 0;w10;r4;");
        tired.sends(0);
        tired.month(0);
        due("a lost one has rested", tired.name(0, 1), 5);
        tired.month(0);
        due("and does so no more", tired.name(0, 1), 5);
    }

    private static void undoneEach() {
        CHECKS.says("UNDONE: the latest sends(), calls(), acts(), month() that was not refused");
        GrazedNames x = Checks.meadowOf("n9 5 0;n9 0 0;a0 1 3 4;a0 0 9 9;w10;r3;");
        x.sends(0);
        x.calls(0);
        x.sends(0);
        x.acts(0);
        x.month(0);
        int[][] behind = {{1, 0, 1, 1, 9, 2, 3}, {0, 1, 0, 1, 0, 5, 3}, {0, 1, 0, 0, 0, 5, 0}, {0, 0, 0, 0, 0, 5, 0},
            {0, 1, 0, 0, 0, 5, 0}, {0, 0, 0, 0, 0, 5, 0}};
        for (int done = 5; done >= 0; done--) {
            int[] want = behind[5 - done];
            for (int what = 0; what <= 4; what++) {
                due("behind " + done + ", now(" + what + ")", x.now(what), want[what]);
            }
            due("behind " + done + ", name(0, 1)", x.name(0, 1), want[5]);
            due("behind " + done + ", name(1, 1)", x.name(1, 1), want[6]);
            due("behind " + done + ", now(6)", x.now(6), done);
            due("behind " + done + ", undo()", x.undo(), done == 0 ? STATE : done - 1);
        }
    }

    private static void undoneTen() {
        CHECKS.says("(10 are known, older ones are lost)");
        for (int done = 0; done <= 12; done++) {
            GrazedNames x = Checks.meadowOf(NAME);
            Checks.months(x, done);
            int known = Math.min(done, 10);
            due(done + " done, now(6)", x.now(6), known);
            for (int more = known - 1; more >= 0; more--) {
                due(done + " done, undo()", x.undo(), more);
            }
            due(done + " done, no more", x.undo(), STATE);
            due(done + " done, the month then", x.now(0), done - known);
        }
        GrazedNames x = Checks.meadowOf(NAME + "w0;");
        for (int round = 0; round < 3; round++) {
            for (int i = 0; i < 13; i++) {
                due("round " + round, i % 2 == 0 ? x.sends(0) : x.calls(0), 1 - i % 2);
            }
            due("round " + round + ", ten", x.now(6), 10);
            for (int i = 9; i >= 0; i--) {
                due("round " + round + ", undo()", x.undo(), i);
            }
            due("round " + round + ", who grazes", x.now(1), 1);
            x.calls(0);
        }
    }

    private static void undoneNotRefused() {
        CHECKS.says("UNDONE: the latest sends(), calls(), acts(), month() that was not refused");
        GrazedNames x = Checks.meadowOf("n9 0 0;n9 0 0;a0 1 1 1;a0 0 9 9;m1;");
        x.acts(0);
        x.sends(0);
        x.sends(0);
        x.sends(1);
        x.sends(2);
        x.calls(1);
        x.calls(2);
        x.acts(0);
        x.acts(1);
        x.acts(2);
        x.month(10000);
        due("two were not refused", x.now(6), 2);
        due("undo() of the sending", x.undo(), 1);
        due("none grazes", x.now(1), 0);
        due("undo() of the act", x.undo(), 0);
        due("none is met", x.now(3), 0);
    }

    private static void undoneNothingElse() {
        CHECKS.says("UNDONE: the latest sends(), calls(), acts(), month() that was not refused");
        GrazedNames x = Checks.meadowOf("n9 1 0;n9 0 0;a0 1 1 1;");
        x.sends(0);
        x.keep(0);
        x.saw(1);
        x.found(1, 1);
        x.rate(0, 0);
        x.type('m');
        x.plan(5, -1);
        due("one may be", x.now(6), 1);
        due("undo()", x.undo(), 0);
        due("it is the sending", x.now(1), 0);
        due("seen stays", x.count(5), 1);
        due("found stays", x.count(6), 1);
        due("the letter stays", x.count(7), 1);
        due("the trace stays", x.trace(), 1);
        due("an undo() is not undone", x.undo(), STATE);
        due("the image stays", x.back(0), 0);
        due("as it was kept", x.now(1), 1);
        x.calls(0);
        x.forget();
        x.clear();
        due("forget() and clear() are not undone", x.undo(), 0);
        due("nothing seen", x.count(5), 0);
    }

    private static void undoneOver() {
        CHECKS.says("UNDONE: how many more may be. STATE: none.");
        GrazedNames x = Checks.meadowOf(NAME + "a11 0 1 5;");
        Checks.months(x, 12);
        due("month(0)", x.month(0), STATE);
        due("undo()", x.undo(), 9);
        due("the year is not over", x.now(0), 11);
        due("acts(0)", x.acts(0), 1);
        due("undo() goes on behind it", x.now(6), 10);
        x.month(0);
        due("met this time", x.now(4), 0);
    }
}
