/** Each promise of the document by itself: ordinary inputs, the edges it names, wrong inputs. */
public final class PromiseRuns {
    private static final int BAD = -1, STATE = -2, FULL = -3, NONE = -9, NO = -1000000;
    private static final int[] WRONG = {Integer.MIN_VALUE, -1000, 1000, Integer.MAX_VALUE};
    private static final Checks CHECKS = new Checks();

    private static void due(String call, long got, long want) {
        CHECKS.due(call, got, want);
    }

    public static void main(String[] args) {
        newObject();
        type();
        clear();
        meadowItems();
        meadowFaults();
        meadowAnew();
        name();
        act();
        now();
        sends();
        calls();
        acts();
        month();
        monthWithWolves();
        undo();
        plan();
        planOfSeveral();
        law();
        best();
        mean();
        home();
        saw();
        stray();
        found();
        can();
        ask();
        forget();
        rate();
        keepAndBack();
        count();
        trace();
        wrongNumbers();
        CHECKS.end();
    }

    private static void newObject() {
        GrazedNames x = new GrazedNames();
        int[] counts = {0, 0, 2, 5, 1, 0, 0, 0};
        for (int what = 0; what < counts.length; what++) {
            due("1: new, count(" + what + ")", x.count(what), counts[what]);
        }
        for (int what = 0; what < 7; what++) {
            due("1: new, now(" + what + ")", x.now(what), 0);
        }
        due("1: new, name(0, 0)", x.name(0, 0), BAD);
        due("1: new, act(0, 0)", x.act(0, 0), BAD);
        due("1: new, sends(0)", x.sends(0), BAD);
        due("1: new, acts(0)", x.acts(0), BAD);
        due("1: new, back(0)", x.back(0), STATE);
        due("1: new, undo()", x.undo(), STATE);
        due("1: new, trace()", x.trace(), 0);
        due("1: new, rate(0, 0)", x.rate(0, 0), NO);
        due("1: new, stray(-1)", x.stray(-1), 1);
        due("1: new, can(0)", x.can(0), 1);
        due("1: new, plan(5, -1)", x.plan(5, -1), 0);
        due("1: new, plan(5, 0)", x.plan(5, 0), BAD);
    }

    private static void type() {
        GrazedNames x = new GrazedNames();
        due("2: type(0)", x.type(0), 1);
        due("2: type(255)", x.type(255), 2);
        due("2: type(256)", x.type(256), BAD);
        due("2: type(-1)", x.type(-1), BAD);
        due("2: count(7)", x.count(7), 2);
        for (int i = 3; i <= 180; i++) {
            due("2: letter " + i, x.type(32), i);
        }
        due("2: letter 181", x.type(32), FULL);
        due("2: BAD ahead of FULL", x.type(256), BAD);
        due("2: count(7) when full", x.count(7), 180);
    }

    private static void clear() {
        GrazedNames x = new GrazedNames();
        due("3: clear() of nothing", x.clear(), 0);
        Checks.tell(x, "n1");
        due("3: clear()", x.clear(), 2);
        due("3: count(7)", x.count(7), 0);
        due("3: clear() again", x.clear(), 0);
        Checks.tell(x, "m3;");
        due("3: meadow() of what came behind", x.meadow(), 1);
        due("3: nothing else is cleared", x.clear() + x.count(2), 3);
    }

    private static void items(String text, int want) {
        CHECKS.reads(text, want);
    }

    private static void meadowItems() {
        items("", 0);
        items("   ", 0);
        items("m1;", 1);
        items("  m  4  ;  ", 1);
        items("w0;r1;m1;", 3);
        items("w10;r9;m4;", 3);
        items("n1 0 0;", 1);
        items("n30 30 31;", 1);
        items("n1 0 0;a0 0 1 1;n2 2 2;a11 1 9 9;", 4);
        items("n1 0 0;a0 0 1 1;a0 0 1 1;a0 0 1 1;a0 0 1 1;a0 0 1 1;a0 0 1 1;a0 0 1 1;a0 0 1 1;a0 0 1 1;a0 0 1 1;", 11);
    }

    private static void fault(String text) {
        CHECKS.fault(text);
    }

    private static void meadowFaults() {
        fault("|x");
        fault("|;");
        fault("|1");
        fault(" |N1 0 0;");
        fault("n|");
        fault("n1|");
        fault("n1 |");
        fault("n1 0 0|");
        fault("n1 0 0  |");
        fault("n|;");
        fault("n|n");
        fault("n1 0 0 |0;");
        fault("n1 0 0;|;");
        fault("n|0 0 0;");
        fault("n|31 0 0;");
        fault("n5 |6 0;");
        fault("n5 5 |32;");
        fault("n5 5 0|,");
        fault("n|05 5 0;");
        fault("n5 |00 0;");
        fault("n|100 5 0;");
        fault("n|4294967297 5 0;");
        fault("n5 5 |99;");
        fault("n5|\t5 0;");
        fault("n5|" + (char) 0 + "5 0;");
        fault("n5|" + (char) 255 + "5 0;");
        fault("n|-5 5 0;");
        fault("n1 0 0;n1 0 0;n1 0 0;n1 0 0;n1 0 0;n1 0 0;|n1 0 0;");
        fault("a0 |0 1 1;n1 0 0;");
        fault("n1 0 0;a|12 0 1 1;");
        fault("n1 0 0;a11 |1 1 1;");
        fault("n1 0 0;a0 0 |0 1;");
        fault("n1 0 0;a0 0 |10 1;");
        fault("n1 0 0;a0 0 9 |0;");
        fault("n1 0 0;a0 0 9 |10;");
        fault("n1 0 0;a0 0 1 1;a0 0 1 1;a0 0 1 1;a0 0 1 1;a0 0 1 1;a0 0 1 1;a0 0 1 1;a0 0 1 1;a0 0 1 1;a0 0 1 1;|a");
        fault("m|0;");
        fault("m|5;");
        fault("r|0;");
        fault("r|10;");
        fault("w|11;");
        fault("m1;|m1;");
        fault("r1;w1;|r1;");
        fault("w1;m1;|w");
        fault("m1|m1;");
        fault("m1 |2;");
        fault("m|x");
        fault("m1|x;");
        fullTexts();
    }

    /** Texts that end with the last letter there may be, in the midst of each kind of token. */
    private static void fullTexts() {
        items(" ".repeat(180), 0);
        items("m1;" + " ".repeat(177), 1);
        items(" ".repeat(177) + "m1;", 1);
        fault("|" + "0".repeat(180));
        fault(" ".repeat(177) + "m|99");
        fault(" ".repeat(178) + "m1|");
        fault(" ".repeat(179) + "n|");
        fault(" ".repeat(179) + "|;");
        fault("n1 0 0" + " ".repeat(174) + "|");
        fault("|" + ";".repeat(180));
        GrazedNames x = new GrazedNames();
        Checks.tell(x, " ".repeat(177) + "m3;;");
        due("4: a letter too many did not come", x.meadow(), 1);
        due("4: read to the last letter", x.count(2), 3);
    }

    private static void meadowAnew() {
        GrazedNames x = Checks.meadowOf("n9 4 3;n8 0 1;a0 0 2 7;m1;r9;w0;");
        x.sends(1);
        x.acts(0);
        x.saw(1);
        x.found(1, 1);
        x.keep(0);
        x.rate(1, 0);
        Checks.tell(x, "n5 5 5;n");
        due("4: meadow() with a fault", x.meadow(), -18);
        due("4: the text is still there", x.count(7), 8);
        due("4: names are still there", x.count(0), 2);
        due("4: acts are still there", x.act(0, 4), 1);
        due("4: who grazes still does", x.now(1), 2);
        due("4: what may be undone still may", x.now(6), 2);
        due("4: an image is still there", x.back(0), 0);
        x.sends(0);
        x.month(0);
        x.clear();
        Checks.tell(x, "n7 3 2;");
        due("4: meadow() anew", x.meadow(), 1);
        int[] counts = {1, 0, 2, 5, 1, 0, 0, 0};
        for (int what = 0; what < counts.length; what++) {
            due("4: anew, count(" + what + ")", x.count(what), counts[what]);
        }
        for (int what = 0; what < 7; what++) {
            due("4: anew, now(" + what + ")", x.now(what), 0);
        }
        due("4: anew, how tired", x.name(0, 1), 3);
        due("4: anew, undo()", x.undo(), STATE);
        due("4: anew, back(0)", x.back(0), STATE);
        due("4: anew, trace() goes on", x.trace(), 11);
    }

    private static void name() {
        GrazedNames x = Checks.meadowOf("n9 4 21;n30 30 31;w10;a0 0 2 3;");
        int[] first = {9, 4, 21, 0, 0};
        for (int what = 0; what < first.length; what++) {
            due("5: name(0, " + what + ")", x.name(0, what), first[what]);
        }
        due("5: name(0, -1)", x.name(0, -1), BAD);
        due("5: name(0, 5)", x.name(0, 5), BAD);
        due("5: name(2, 0)", x.name(2, 0), BAD);
        due("5: name(-1, 0)", x.name(-1, 0), BAD);
        x.acts(0);
        due("5: tired by an act", x.name(0, 1), 6);
        x.sends(1);
        due("5: grazes", x.name(1, 3), 1);
        due("5: the other does not", x.name(0, 3), 0);
        x.month(0);
        due("5: is lost", x.name(1, 4), 1);
        due("5: a lost one grazes no more", x.name(1, 3), 0);
        due("5: a lost one has rested", x.name(1, 1), 25);
        due("5: its strength", x.name(1, 0), 30);
    }

    private static void act() {
        GrazedNames x = Checks.meadowOf("n9 4 21;n30 0 31;a0 1 2 3;a11 0 9 8;");
        int[] first = {0, 1, 2, 3, 0};
        int[] second = {11, 0, 9, 8, 0};
        for (int what = 0; what < first.length; what++) {
            due("6: act(0, " + what + ")", x.act(0, what), first[what]);
            due("6: act(1, " + what + ")", x.act(1, what), second[what]);
        }
        x.acts(0);
        due("6: met", x.act(0, 4), 1);
        due("6: the other is not", x.act(1, 4), 0);
        due("6: act(0, 5)", x.act(0, 5), BAD);
        due("6: act(0, -1)", x.act(0, -1), BAD);
        due("6: act(2, 0)", x.act(2, 0), BAD);
        due("6: act(-1, 0)", x.act(-1, 0), BAD);
    }

    private static void now() {
        GrazedNames x = Checks.meadowOf("n9 0 0;n9 0 0;n9 0 0;a0 0 1 5;a0 2 1 6;w10;");
        x.sends(1);
        x.sends(2);
        x.acts(0);
        due("7: now(1)", x.now(1), 6);
        due("7: now(3)", x.now(3), 1);
        due("7: now(4)", x.now(4), 0);
        due("7: now(6)", x.now(6), 3);
        x.month(9);
        due("7: now(0)", x.now(0), 1);
        due("7: now(1) with wolves", x.now(1), 0);
        due("7: now(2)", x.now(2), 6);
        due("7: now(3) stays", x.now(3), 1);
        due("7: now(4) of the act not met", x.now(4), 6);
        due("7: now(6)", x.now(6), 4);
        due("7: now(7)", x.now(7), BAD);
        due("7: now(-1)", x.now(-1), BAD);
    }

    private static void sends() {
        GrazedNames x = Checks.meadowOf("n9 0 0;n9 0 0;n9 0 0;w10;");
        due("8: sends(2)", x.sends(2), 1);
        due("8: sends(2) again", x.sends(2), STATE);
        due("8: sends(0)", x.sends(0), 2);
        due("8: no room", x.sends(1), STATE);
        due("8: BAD ahead of STATE", x.sends(3), BAD);
        due("8: sends(-1)", x.sends(-1), BAD);
        due("8: a refused one can't be undone", x.now(6), 2);
        x.month(1);
        due("8: a lost one", x.sends(0), STATE);
        due("8: there is room again", x.sends(1), 1);
        GrazedNames over = Checks.meadowOf("n9 0 0;");
        for (int i = 0; i < 12; i++) {
            over.month(0);
        }
        due("8: in a year that is over", over.sends(0), 1);
    }

    private static void calls() {
        GrazedNames x = Checks.meadowOf("n9 0 0;n9 0 0;w0;");
        due("9: calls(0) of none that grazes", x.calls(0), STATE);
        x.sends(0);
        x.sends(1);
        due("9: calls(0)", x.calls(0), 1);
        due("9: calls(0) again", x.calls(0), STATE);
        due("9: who grazes", x.now(1), 2);
        due("9: calls(2)", x.calls(2), BAD);
        due("9: calls(-1)", x.calls(-1), BAD);
        x.month(0);
        due("9: grazes on into the next month", x.calls(1), 0);
        due("9: now(6)", x.now(6), 5);
    }

    private static void acts() {
        GrazedNames x = Checks.meadowOf("n5 2 0;n5 0 0;n5 0 0;a0 0 2 1;a0 0 1 1;a0 0 1 1;a1 0 1 1;a0 1 1 1;a1 2 1 1;w10;");
        due("10: acts(0)", x.acts(0), 4);
        due("10: met already", x.acts(0), STATE);
        due("10: just as much as it bears", x.acts(2), 5);
        due("10: too much", x.acts(1), STATE);
        due("10: of another month", x.acts(3), STATE);
        due("10: acts(6)", x.acts(6), BAD);
        due("10: acts(-1)", x.acts(-1), BAD);
        x.sends(1);
        x.sends(2);
        due("10: its name grazes", x.acts(4), STATE);
        x.calls(1);
        due("10: called back", x.acts(4), 1);
        x.month(0);
        due("10: its name is lost", x.acts(5), STATE);
        due("10: not lost, but too tired", x.acts(3), STATE);
        due("10: what is met", x.now(3), 1 + 4 + 16);
    }

    private static void month() {
        GrazedNames x = Checks.meadowOf("n9 9 0;n9 4 0;n9 7 0;a0 0 1 3;a0 1 1 4;a1 1 1 5;a2 0 9 9;r6;w0;");
        due("11: month(-1)", x.month(-1), BAD);
        due("11: month(10000)", x.month(10000), BAD);
        x.acts(1);
        x.sends(0);
        x.sends(1);
        due("11: month(0)", x.month(0), 0);
        due("11: harm of what was not met", x.now(4), 3);
        due("11: rested", x.name(0, 1), 3);
        due("11: not below 0", x.name(1, 1), 0);
        due("11: who did not graze is as tired", x.name(2, 1), 7);
        due("11: the next month", x.now(0), 1);
        due("11: they graze on", x.now(1), 3);
        due("11: month(9999)", x.month(9999), 0);
        due("11: more harm", x.now(4), 8);
        for (int i = 2; i < 12; i++) {
            due("11: month " + i, x.month(i), 0);
        }
        due("11: the year is over", x.month(0), STATE);
        due("11: BAD ahead of STATE", x.month(-1), BAD);
        due("11: month 12", x.now(0), 12);
        due("11: all harm", x.now(4), 17);
    }

    /** DRAW worked out here anew, for each name and month, against WOLVES of each number. */
    private static void monthWithWolves() {
        int[] zs = {0, 1, 7, 123, 4711, 9998, 9999};
        for (int wolves = 0; wolves <= 10; wolves++) {
            for (int z : zs) {
                GrazedNames x = Checks.meadowOf("n9 9 0;n9 9 0;n9 9 0;n9 9 0;m4;w" + wolves + ";");
                int lost = 0;
                for (int month = 0; month < 12; month++) {
                    int newly = 0;
                    for (int p = 0; p < 4; p++) {
                        if ((lost >> p & 1) == 0) {
                            x.sends(p);
                            long q = 7919L * z + 6151L * p + 12289L * month + 1;
                            if ((q * q % 65521L) / 8 % 10 < wolves) {
                                lost |= 1 << p;
                                newly++;
                            }
                        }
                    }
                    due("11: w" + wolves + ", month(" + z + ")", x.month(z), newly);
                    due("11: w" + wolves + ", lost in month " + month, x.now(2), lost);
                    due("11: w" + wolves + ", grazing on", x.now(1), 15 & ~lost);
                }
            }
        }
    }

    private static void undo() {
        GrazedNames x = Checks.meadowOf("n9 5 0;n9 0 0;a0 1 3 4;a0 0 9 9;w10;");
        due("12: undo() of nothing", x.undo(), STATE);
        x.sends(0);
        x.calls(0);
        x.sends(0);
        x.acts(0);
        x.acts(0);
        x.month(5);
        due("12: lost", x.now(2), 1);
        due("12: undo() of a month", x.undo(), 4);
        due("12: the month", x.now(0), 0);
        due("12: not lost", x.now(2), 0);
        due("12: grazes", x.now(1), 1);
        due("12: as tired", x.name(0, 1), 5);
        due("12: no harm", x.now(4), 0);
        due("12: undo() of an act", x.undo(), 3);
        due("12: not met", x.now(3), 0);
        due("12: not tired by it", x.name(1, 1), 0);
        due("12: undo() of a sending", x.undo(), 2);
        due("12: none grazes", x.now(1), 0);
        due("12: undo() of a calling", x.undo(), 1);
        due("12: grazes again", x.now(1), 1);
        due("12: undo() of the first", x.undo(), 0);
        due("12: undo() of no more", x.undo(), STATE);
        for (int i = 0; i < 6; i++) {
            x.sends(1);
            x.calls(1);
        }
        x.sends(0);
        due("12: ten are known", x.now(6), 10);
        for (int i = 9; i >= 0; i--) {
            due("12: undo() down to " + i, x.undo(), i);
        }
        due("12: older ones are lost", x.undo(), STATE);
        due("12: as behind the third", x.now(1), 2);
    }

    private static void plan() {
        GrazedNames x = Checks.meadowOf("n9 9 0;n9 9 0;a1 0 5 3;a1 1 5 4;m1;r5;w10;");
        due("13: one can rest, plan(2, -1)", x.plan(2, -1), 3);
        due("13: the lesser harm waits", x.plan(2, 0), 0);
        due("13: the greater does not come", x.plan(2, 1), 1);
        due("13: plan(1, -1)", x.plan(1, -1), 0);
        due("13: plan(5, -1)", x.plan(5, -1), 3);
        due("13: nothing changes", x.now(0) + x.now(1) + x.now(4) + x.now(6), 0);
        due("13: plan(0, -1)", x.plan(0, -1), BAD);
        due("13: plan(6, -1)", x.plan(6, -1), BAD);
        due("13: plan(1, -2)", x.plan(1, -2), BAD);
        due("13: plan(1, 2)", x.plan(1, 2), BAD);
        x.sends(0);
        due("13: who grazes is chosen anew", x.plan(2, 0), 0);
        for (int i = 0; i < 8; i++) {
            x.month(i);
        }
        due("13: month 8, plan(5, -1)", x.plan(5, -1), STATE);
        due("13: month 8, plan(4, -1)", x.plan(4, -1), 0);
        due("13: BAD ahead of STATE", x.plan(5, 2), BAD);
        for (int i = 0; i < 4; i++) {
            x.month(i);
        }
        due("13: year over, plan(1, -1)", x.plan(1, -1), STATE);
    }

    private static void planOfSeveral() {
        GrazedNames tie = Checks.meadowOf("n9 9 0;n9 9 0;a2 0 5 3;a2 1 5 3;m1;r5;");
        due("13: both can rest by turns", tie.plan(3, -1), 0);
        due("13: name 0 has the least bits", tie.plan(3, 0), 1);
        due("13: name 1 the other month", tie.plan(3, 1), 2);
        GrazedNames even = Checks.meadowOf("n9 9 0;n9 9 0;a1 0 5 3;a1 1 5 3;m1;r5;");
        due("13: of like harm", even.plan(2, -1), 3);
        due("13: name 0 has no bits", even.plan(2, 0), 0);
        due("13: name 1 has them", even.plan(2, 1), 1);
        GrazedNames lost = Checks.meadowOf("n9 9 0;a0 0 1 2;a1 0 5 3;a2 0 1 4;r9;w10;");
        due("13: ahead of wolves", lost.plan(3, -1), 2);
        lost.sends(0);
        lost.month(0);
        due("13: a lost name does harm", lost.plan(2, -1), 7);
        due("13: and grazes never", lost.plan(2, 0), 0);
        GrazedNames met = Checks.meadowOf("n9 0 0;a0 0 5 9;a1 0 9 8;r5;");
        met.acts(0);
        due("13: what is met does no harm", met.plan(2, -1), 0);
        due("13: though its name grazes", met.plan(2, 0), 1);
        GrazedNames order = Checks.meadowOf("n9 0 0;a0 0 5 1;a0 0 5 9;a0 0 4 9;");
        due("13: acts by their numbers", order.plan(1, -1), 9);
    }

    private static void law() {
        GrazedNames x = Checks.meadowOf("n9 9 0;n9 6 0;n9 6 0;a0 0 1 1;a0 1 3 2;a0 2 4 4;a1 0 5 8;a1 1 6 3;m1;r6;w10;");
        due("14: law(0)", x.law(0), 8);
        due("14: law(6)", x.law(6), 8);
        due("14: law(7)", x.law(7), 8);
        due("14: law(10)", x.law(10), 16);
        due("14: law(30)", x.law(30), 16);
        due("14: law(-1)", x.law(-1), BAD);
        due("14: law(31)", x.law(31), BAD);
        due("14: nothing changes", x.now(0) + x.now(1) + x.now(4), 0);
        GrazedNames like = Checks.meadowOf("n9 5 0;n9 5 0;a0 0 1 3;a0 1 1 7;m1;");
        due("14: of like ones the lower", like.law(5), 3);
        like.acts(0);
        due("14: the more tired ahead, what is met no harm", like.law(5), 0);
        GrazedNames lost = Checks.meadowOf("n9 9 0;n9 8 0;a1 0 1 3;a1 1 5 7;m1;r9;w10;");
        lost.sends(0);
        lost.month(1);
        due("14: a lost one takes no room", lost.law(1), 3 + 7);
        due("14: a lost one does harm", lost.law(9), 3 + 7);
        GrazedNames room = Checks.meadowOf("n9 9 0;n9 8 0;n9 7 0;a0 0 1 1;a0 1 1 2;a0 2 1 4;m2;");
        due("14: room at most", room.law(7), 3);
    }

    private static void best() {
        GrazedNames x = Checks.meadowOf("n9 9 0;n9 6 0;n9 6 0;a0 0 1 1;a0 1 3 2;a0 2 4 4;a1 0 5 8;a1 1 6 3;m1;r6;w10;");
        int least = Integer.MAX_VALUE;
        int best = -1;
        for (int t = 0; t <= 30; t++) {
            if (x.law(t) < least) {
                least = x.law(t);
                best = t;
            }
        }
        due("7: BEST", x.now(5), best);
        due("7: BEST of a name that must not rest", Checks.meadowOf("n9 3 0;a0 0 1 1;").now(5), 4);
        due("7: BEST of several is the least", Checks.meadowOf("n9 3 0;").now(5), 0);
        due("7: BEST may be 30", Checks.meadowOf("n30 29 0;a0 0 1 1;").now(5), 30);
    }

    private static void fraction(String call, int upper, int lower, int wantUpper, int wantLower) {
        due(call + ", upper", upper, wantUpper);
        due(call + ", lower", lower, wantLower);
    }

    private static void mean() {
        GrazedNames x = Checks.meadowOf("n9 0 0;n9 0 0;n9 0 0;a0 0 1 9;a1 0 1 5;a11 1 1 6;a2 2 1 9;a1 1 1 3;w4;");
        fraction("15: none grazes", x.mean(0), x.mean(1), 0, 1);
        x.sends(0);
        fraction("15: later months alone", x.mean(0), x.mean(1), 2, 1);
        x.sends(1);
        fraction("15: together", x.mean(0), x.mean(1), 28, 5);
        x.month(0);
        due("15: month(0) lost", x.now(2), 1);
        fraction("15: the next month", x.mean(0), x.mean(1), 12, 5);
        due("15: mean(2)", x.mean(2), BAD);
        due("15: mean(-1)", x.mean(-1), BAD);
        GrazedNames none = Checks.meadowOf("n9 0 0;a1 0 1 9;w0;");
        none.sends(0);
        fraction("15: no wolves", none.mean(0), none.mean(1), 0, 1);
    }

    private static void home() {
        GrazedNames x = Checks.meadowOf("w3;");
        fraction("16: home(2, 3, 1)", x.home(2, 3, 1, 0), x.home(2, 3, 1, 1), 98, 125);
        fraction("16: home(3, 3, 2)", x.home(3, 3, 2, 0), x.home(3, 3, 2, 1), 117649, 1000000);
        fraction("16: home(1, 1, 1)", x.home(1, 1, 1, 0), x.home(1, 1, 1, 1), 7, 10);
        fraction("16: home(0, 3, 2)", x.home(0, 3, 2, 0), x.home(0, 3, 2, 1), 1, 1);
        fraction("16: home(3, 2, 0)", x.home(3, 2, 0, 0), x.home(3, 2, 0, 1), 0, 1);
        fraction("16: home(2, 2, 0)", x.home(2, 2, 0, 0), x.home(2, 2, 0, 1), 1, 1);
        fraction("16: home(0, 0, 2)", x.home(0, 0, 2, 0), x.home(0, 0, 2, 1), 1, 1);
        fraction("16: home(1, 0, 2)", x.home(1, 0, 2, 0), x.home(1, 0, 2, 1), 0, 1);
        GrazedNames wolves = Checks.meadowOf("w10;");
        fraction("16: all wolves", wolves.home(1, 3, 1, 0), wolves.home(1, 3, 1, 1), 0, 1);
        fraction("16: all wolves, no month", wolves.home(3, 3, 0, 0), wolves.home(3, 3, 0, 1), 1, 1);
        GrazedNames none = Checks.meadowOf("w0;");
        fraction("16: no wolves", none.home(3, 3, 2, 0), none.home(3, 3, 2, 1), 1, 1);
        due("16: home(4, 3, 2, 0)", x.home(4, 3, 2, 0), BAD);
        due("16: home(-1, 3, 2, 0)", x.home(-1, 3, 2, 0), BAD);
        due("16: home(0, 4, 2, 0)", x.home(0, 4, 2, 0), BAD);
        due("16: home(0, -1, 2, 0)", x.home(0, -1, 2, 0), BAD);
        due("16: home(0, 0, 3, 0)", x.home(0, 0, 3, 0), BAD);
        due("16: home(0, 0, -1, 0)", x.home(0, 0, -1, 0), BAD);
        due("16: home(0, 0, 0, 2)", x.home(0, 0, 0, 2), BAD);
        due("16: home(0, 0, 0, -1)", x.home(0, 0, 0, -1), BAD);
    }

    private static void saw() {
        GrazedNames x = new GrazedNames();
        due("17: saw(32)", x.saw(32), BAD);
        due("17: saw(-1)", x.saw(-1), BAD);
        for (int i = 1; i <= 6; i++) {
            due("17: saw a " + i + ". one", x.saw(i == 1 ? 0 : 31), i);
        }
        due("17: saw a 7. one", x.saw(0), FULL);
        due("17: BAD ahead of FULL", x.saw(32), BAD);
        due("17: count(5)", x.count(5), 6);
    }

    private static void stray() {
        GrazedNames x = Checks.meadowOf("n9 0 0;n9 0 1;n9 0 3;n9 0 28;w10;");
        due("18: none seen, one way", x.stray(-1), 1);
        due("18: stray(0) of none", x.stray(0), BAD);
        x.saw(1);
        due("18: three can be it", x.stray(-1), 3);
        due("18: not sure", x.stray(0), NONE);
        x.saw(24);
        due("18: sure", x.stray(1), 3);
        due("18: still three ways", x.stray(-1), 3);
        x.saw(4);
        due("18: name 0 is the third", x.stray(2), 0);
        due("18: two ways", x.stray(-1), 2);
        x.saw(3);
        due("18: ways of four", x.stray(-1), 2);
        due("18: stray(4)", x.stray(4), BAD);
        due("18: stray(-2)", x.stray(-2), BAD);
        x.saw(0);
        due("18: more than there are", x.stray(-1), 0);
        due("18: none is sure", x.stray(1), NONE);
        GrazedNames lost = Checks.meadowOf("n9 0 0;n9 0 1;w10;");
        lost.saw(0);
        lost.sends(0);
        due("18: who grazes can be it", lost.stray(-1), 2);
        lost.month(0);
        due("18: a lost one can't", lost.stray(-1), 1);
        due("18: so it is sure", lost.stray(0), 1);
        GrazedNames all = Checks.meadowOf("n1 0 0;n1 0 0;n1 0 0;n1 0 0;n1 0 0;n1 0 0;");
        for (int i = 0; i < 6; i++) {
            all.saw(0);
        }
        due("18: six of six", all.stray(-1), 720);
    }

    private static void found() {
        GrazedNames x = Checks.meadowOf("n9 0 0;n9 0 1;n9 0 3;");
        due("19: found(0, 0)", x.found(0, 0), BAD);
        due("19: found(8, 0)", x.found(8, 0), BAD);
        due("19: found(-1, 0)", x.found(-1, 0), BAD);
        due("19: found(1, -1)", x.found(1, -1), BAD);
        due("19: found(1, 5)", x.found(1, 5), BAD);
        due("19: found(7, 4)", x.found(7, 4), 1);
        for (int i = 2; i <= 6; i++) {
            due("19: found a " + i + ". thing", x.found(1, 0), i);
        }
        due("19: found a 7. thing", x.found(1, 0), FULL);
        due("19: BAD ahead of FULL", x.found(8, 0), BAD);
        due("19: count(6)", x.count(6), 6);
        due("19: no names", new GrazedNames().found(1, 0), BAD);
    }

    private static void can() {
        GrazedNames x = Checks.meadowOf("n9 0 0;n9 0 0;n9 0 0;n9 0 0;m2;w10;");
        due("20: room for two of four", x.can(0), 1 + 4 + 6);
        due("20: in all", x.can(1), 0);
        due("20: in some", x.can(2), 15);
        x.sends(3);
        x.month(0);
        due("20: lost ones too", x.can(0), 11);
        x.found(7, 2);
        due("20: two of three", x.can(0), 3);
        due("20: in some of them", x.can(2), 7);
        x.found(3, 1);
        due("20: one of two", x.can(0), 2);
        due("20: name 2 in all", x.can(1), 4);
        x.found(8, 1);
        due("20: there are none", x.can(0), 0);
        due("20: in all of none", x.can(1), NONE);
        due("20: in some of none", x.can(2), 0);
        due("20: can(3)", x.can(3), BAD);
        due("20: can(-1)", x.can(-1), BAD);
    }

    private static void ask() {
        GrazedNames x = Checks.meadowOf("n9 0 0;n9 0 0;n9 0 0;n9 0 0;m2;");
        due("21: of several the lowest", x.ask(), 0);
        x.found(1, 1);
        due("21: not who is known", x.ask(), 1);
        x.found(12, 1);
        due("21: the one that halves them", x.ask(), 2);
        x.found(4, 1);
        due("21: one can be", x.can(0), 1);
        due("21: none to ask", x.ask(), NONE);
        x.found(4, 0);
        due("21: none can be", x.can(0), 0);
        due("21: none to ask of none", x.ask(), NONE);
        due("21: no names", new GrazedNames().ask(), NONE);
    }

    private static void forget() {
        GrazedNames x = Checks.meadowOf("n9 0 0;n9 0 9;");
        due("22: forget() of nothing", x.forget(), 0);
        x.saw(0);
        x.saw(9);
        x.found(1, 1);
        due("22: forget()", x.forget(), 3);
        due("22: nothing seen", x.count(5), 0);
        due("22: nothing found", x.count(6), 0);
        due("22: ways", x.stray(-1), 1);
        due("22: sets", x.can(0), 4);
        due("22: no stray", x.stray(0), BAD);
        due("22: nothing of it can be undone", x.undo(), STATE);
    }

    private static void rate() {
        GrazedNames x = Checks.meadowOf("n9 4 7;n20 3 9;a0 0 1 6;");
        x.month(0);
        int[] rates = {20, 23, 18, 46, 19, 26};
        for (int kind = 0; kind < rates.length; kind++) {
            due("23: rate(" + kind + ", 1)", x.rate(kind, 1), rates[kind]);
        }
        due("23: rate(6, 0)", x.rate(6, 0), NO);
        due("23: rate(-1, 0)", x.rate(-1, 0), NO);
        due("23: rate(0, 2)", x.rate(0, 2), NO);
        due("23: rate(0, -1)", x.rate(0, -1), NO);
        due("23: below 0", Checks.meadowOf("n1 0 31;").rate(2, 0), -4);
    }

    private static void keepAndBack() {
        GrazedNames x = Checks.meadowOf("n9 4 0;n9 0 0;n9 9 0;a0 0 2 3;a0 1 2 4;a1 0 2 5;w10;");
        due("25: none was kept", x.back(0), STATE);
        x.acts(0);
        x.sends(2);
        x.month(1);
        due("24: keep(0)", x.keep(0), 1);
        x.sends(1);
        due("25: the other was not kept", x.back(1), STATE);
        due("24: keep(1)", x.keep(1), 1);
        x.acts(2);
        x.month(0);
        x.month(0);
        x.saw(3);
        x.found(1, 1);
        due("25: back(1)", x.back(1), 1);
        due("25: nothing can be undone", x.undo(), STATE);
        due("25: the month", x.now(0), 1);
        due("25: who grazes", x.now(1), 2);
        due("25: who is lost", x.now(2), 4);
        due("25: what is met", x.now(3), 1);
        due("25: all harm", x.now(4), 4);
        due("25: how tired", x.name(0, 1), 6);
        due("25: seen stays", x.count(5), 1);
        due("25: found stays", x.count(6), 1);
        due("25: back(0)", x.back(0), 1);
        due("25: who grazes in the other", x.now(1), 0);
        x.month(0);
        due("24: keep(0) anew", x.keep(0), 2);
        due("25: back(1) again", x.back(1), 1);
        due("25: back(0) anew", x.back(0), 2);
        x.sends(0);
        due("24: keeping can't be undone", x.keep(0) + x.now(6), 3);
        due("24: keep(2)", x.keep(2), BAD);
        due("24: keep(-1)", x.keep(-1), BAD);
        due("25: back(2)", x.back(2), BAD);
        due("25: back(-1)", x.back(-1), BAD);
    }

    private static void count() {
        GrazedNames x = Checks.meadowOf("n9 0 0;n9 0 0;n9 0 0;a0 0 1 1;a0 0 1 1;m4;r9;w7;");
        x.saw(1);
        x.found(1, 1);
        x.found(1, 1);
        Checks.tell(x, "abc");
        int[] counts = {3, 2, 4, 9, 7, 1, 2, 3};
        for (int what = 0; what < counts.length; what++) {
            due("26: count(" + what + ")", x.count(what), counts[what]);
        }
        due("26: count(8)", x.count(8), BAD);
        due("26: count(-1)", x.count(-1), BAD);
    }

    private static void trace() {
        int[] traces = {1, 11, 101, 1011, 10101, 100001};
        for (int kind = 0; kind < traces.length; kind++) {
            GrazedNames x = Checks.meadowOf("n9 4 7;");
            x.rate(kind, 0);
            due("27: trace() of kind " + kind, x.trace(), traces[kind]);
            x.rate(kind, 1);
            x.rate(6, 0);
            due("27: refused ones leave none", x.trace(), traces[kind]);
            x.rate(kind, 0);
            due("27: twice kind " + kind, x.trace(), 2L * traces[kind]);
        }
    }

    private static void wrongNumbers() {
        GrazedNames x = Checks.meadowOf("n9 4 7;a0 0 1 1;");
        for (int n : WRONG) {
            due("type(" + n + ")", x.type(n), BAD);
            due("name(" + n + ", 0)", x.name(n, 0), BAD);
            due("name(0, " + n + ")", x.name(0, n), BAD);
            due("act(" + n + ", 0)", x.act(n, 0), BAD);
            due("act(0, " + n + ")", x.act(0, n), BAD);
            due("now(" + n + ")", x.now(n), BAD);
            due("sends(" + n + ")", x.sends(n), BAD);
            due("calls(" + n + ")", x.calls(n), BAD);
            due("acts(" + n + ")", x.acts(n), BAD);
            due("plan(" + n + ", -1)", x.plan(n, -1), BAD);
            due("plan(1, " + n + ")", x.plan(1, n), BAD);
            due("law(" + n + ")", x.law(n), BAD);
            due("mean(" + n + ")", x.mean(n), BAD);
            due("home(" + n + ", 0, 0, 0)", x.home(n, 0, 0, 0), BAD);
            due("home(0, " + n + ", 0, 0)", x.home(0, n, 0, 0), BAD);
            due("home(0, 0, " + n + ", 0)", x.home(0, 0, n, 0), BAD);
            due("home(0, 0, 0, " + n + ")", x.home(0, 0, 0, n), BAD);
            due("saw(" + n + ")", x.saw(n), BAD);
            due("stray(" + n + ")", x.stray(n), BAD);
            due("found(" + n + ", 0)", x.found(n, 0), BAD);
            due("found(1, " + n + ")", x.found(1, n), BAD);
            due("can(" + n + ")", x.can(n), BAD);
            due("rate(" + n + ", 0)", x.rate(n, 0), NO);
            due("rate(0, " + n + ")", x.rate(0, n), NO);
            due("keep(" + n + ")", x.keep(n), BAD);
            due("back(" + n + ")", x.back(n), BAD);
            due("count(" + n + ")", x.count(n), BAD);
        }
        due("month(MIN)", x.month(Integer.MIN_VALUE), BAD);
        due("month(MAX)", x.month(Integer.MAX_VALUE), BAD);
    }
}
