import java.math.BigInteger;

/** Promises 13 to 16, and BEST, at each bound that the document names: who should graze, what wolves cost. */
public final class AheadEdges {
    private static final int BAD = -1, STATE = -2;
    private static final Checks CHECKS = new Checks();

    private static void due(String call, long got, long want) {
        CHECKS.due(call, got, want);
    }

    public static void main(String[] args) {
        planNumbers();
        planMonthsThereAre();
        planMonthsCounted();
        planBits();
        planRoom();
        planByTurns();
        planOfSeveral();
        planLost();
        planAnew();
        again();
        planOfTheNextText();
        planOfTheLastCall();
        tenActs();
        metAsTold();
        restNotBelowNothing();
        noWolves();
        lawNumbers();
        lawTiredAsItBegins();
        lawRoom();
        lawMostTiredAhead();
        lawLost();
        lawMonths();
        lawMetAndGrazing();
        best();
        bestOfSeveral();
        meanNumbers();
        meanLaterMonths();
        meanOfWolves();
        meanOfLost();
        homeNumbers();
        homeEach();
        CHECKS.end();
    }

    /** Names of strength 10 that are 9 tired, one for each harm of an act in a month; it tires by 1 or by more. */
    private static String tiredOnes(int names, int month, int tiring) {
        StringBuilder text = new StringBuilder("n10 9 0;".repeat(names));
        for (int p = 0; p < names; p++) {
            text.append("a" + month + " " + p + " " + tiring + " " + (p + 1) + ";");
        }
        return text.toString();
    }

    private static void planNumbers() {
        CHECKS.says("PLAN of n MONTHS: HARM (p = -1), in which a NAME GRAZES (bits). BAD;");
        GrazedNames x = Checks.meadowOf(tiredOnes(6, 1, 2));
        due("plan(0, -1)", x.plan(0, -1), BAD);
        due("plan(1, -1)", x.plan(1, -1), 0);
        due("plan(5, -1)", x.plan(5, -1), 10);
        due("plan(6, -1)", x.plan(6, -1), BAD);
        due("plan(2, -2)", x.plan(2, -2), BAD);
        due("plan(2, 0)", x.plan(2, 0), 0);
        due("plan(2, 5)", x.plan(2, 5), 1);
        due("plan(2, 6)", x.plan(2, 6), BAD);
        due("plan(-1, 0)", x.plan(-1, 0), BAD);
        due("plan(MIN, 0)", x.plan(Integer.MIN_VALUE, 0), BAD);
        due("plan(MAX, 0)", x.plan(Integer.MAX_VALUE, 0), BAD);
        due("plan(1, MIN)", x.plan(1, Integer.MIN_VALUE), BAD);
        due("plan(1, MAX)", x.plan(1, Integer.MAX_VALUE), BAD);
        GrazedNames none = new GrazedNames();
        due("no names, plan(1, -1)", none.plan(1, -1), 0);
        due("no names, plan(1, 0)", none.plan(1, 0), BAD);
    }

    private static void planMonthsThereAre() {
        CHECKS.says("PLAN of n (1 .. 5) MONTHS from THE MONTH on (no more than there are)");
        GrazedNames x = Checks.meadowOf("n1 1 0;a11 0 9 4;");
        for (int month = 0; month <= 12; month++) {
            for (int n = 1; n <= 5; n++) {
                int harm = month + n == 12 ? 4 : 0;
                due("month " + month + ", plan(" + n + ", -1)", x.plan(n, -1), month + n > 12 ? STATE : harm);
                due("month " + month + ", plan(" + n + ", 0)", x.plan(n, 0), month + n > 12 ? STATE : 0);
            }
            due("month " + month + ", plan(0, -1)", x.plan(0, -1), BAD);
            due("month " + month + ", plan(6, -1)", x.plan(6, -1), BAD);
            due("month " + month + ", plan(5, 1), BAD ahead of STATE", x.plan(5, 1), BAD);
            due("month " + month + ", plan(5, -2), BAD ahead of STATE", x.plan(5, -2), BAD);
            x.month(0);
        }
    }

    private static void planMonthsCounted() {
        CHECKS.says("that of least HARM in them");
        GrazedNames x = Checks.meadowOf("n1 1 0;a0 0 9 1;a1 0 9 2;a2 0 9 3;a3 0 9 4;a4 0 9 5;a5 0 9 6;a6 0 9 7;");
        int[] fromFirst = {0, 1, 3, 6, 10, 15};
        int[] fromThird = {0, 3, 7, 12, 18, 25};
        for (int n = 1; n <= 5; n++) {
            due("month 0, plan(" + n + ", -1)", x.plan(n, -1), fromFirst[n]);
        }
        Checks.months(x, 2);
        for (int n = 1; n <= 5; n++) {
            due("month 2, plan(" + n + ", -1)", x.plan(n, -1), fromThird[n]);
        }
        due("harm that came already is not in it", x.now(4), 3);
    }

    private static void planBits() {
        CHECKS.says("of each the least bits, bit 0 for THE MONTH, ..");
        // Busy in all months but one, and too tired for the last act if it does not rest in that one.
        for (int free = 0; free <= 3; free++) {
            StringBuilder text = new StringBuilder("n9 ").append(free == 0 ? 9 : 9 - 3 * free).append(" 0;");
            for (int month = 0; month < free; month++) {
                text.append("a" + month + " 0 3 9;");
            }
            text.append("a" + (free + 1) + " 0 5 9;");
            GrazedNames x = Checks.meadowOf(text + "r5;");
            due("free in " + free + ", plan(5, -1)", x.plan(5, -1), 0);
            due("free in " + free + ", plan(5, 0)", x.plan(5, 0), 1 << free);
        }
        GrazedNames any = Checks.meadowOf("n9 9 0;a4 0 5 9;r5;");
        due("free in all four", any.plan(5, 0), 1);
        GrazedNames two = Checks.meadowOf("n9 9 0;a4 0 9 9;r5;");
        due("two months of four", two.plan(5, 0), 3);
        GrazedNames later = Checks.meadowOf("n9 9 0;a8 0 5 9;r5;");
        Checks.months(later, 7);
        due("bit 0 is for THE MONTH", later.plan(2, 0), 1);
        later.sends(0);
        due("also for one that grazes now", later.plan(5, 0), 1);
    }

    private static void planRoom() {
        CHECKS.says("(ROOM at most; not LOST ones)");
        int[] harms = {0, 15, 10, 6, 3};
        for (int room = 1; room <= 4; room++) {
            GrazedNames x = Checks.meadowOf(tiredOnes(6, 1, 2) + "m" + room + ";");
            due("room " + room + ", plan(2, -1)", x.plan(2, -1), harms[room]);
            for (int p = 0; p < 6; p++) {
                due("room " + room + ", plan(2, " + p + ")", x.plan(2, p), p >= 6 - room ? 1 : 0);
            }
        }
        GrazedNames few = Checks.meadowOf(tiredOnes(3, 1, 2) + "m4;");
        due("room for more than there are", few.plan(2, -1), 0);
        due("all of them", few.plan(2, 0) + few.plan(2, 1) + few.plan(2, 2), 3);
    }

    private static void planByTurns() {
        CHECKS.says("of all ways to choose anew for each who GRAZES");
        GrazedNames x = Checks.meadowOf(tiredOnes(6, 4, 2) + "m1;");
        due("four months for six", x.plan(5, -1), 1 + 2);
        int[] bits = {0, 0, 1, 2, 4, 8};
        for (int p = 0; p < 6; p++) {
            due("plan(5, " + p + ")", x.plan(5, p), bits[p]);
        }
        GrazedNames two = Checks.meadowOf(tiredOnes(6, 4, 2) + "m2;");
        int[] inPairs = {1, 1, 2, 2, 4, 4};
        due("four months for six pairs", two.plan(5, -1), 0);
        for (int p = 0; p < 6; p++) {
            due("in pairs, plan(5, " + p + ")", two.plan(5, p), inPairs[p]);
        }
    }

    private static void planOfSeveral() {
        CHECKS.says("of several the first (by NAMES: of each the least bits, bit 0 for THE MONTH, ..)");
        GrazedNames x = Checks.meadowOf("n9 9 0;n9 9 0;n9 9 0;a1 0 5 3;a1 1 5 3;a1 2 5 3;m1;r5;");
        due("like harm, whoever rests", x.plan(2, -1), 6);
        int[] bits = {0, 0, 1};
        for (int p = 0; p < 3; p++) {
            due("plan(2, " + p + ")", x.plan(2, p), bits[p]);
        }
        GrazedNames idle = Checks.meadowOf("n9 9 0;n9 9 0;m4;");
        due("who needs no rest has none", idle.plan(5, 0) + idle.plan(5, 1), 0);
        // Name 0 may rest in month 0 or 1; name 1 in month 0 alone: least harm goes ahead of name 0's least bits.
        GrazedNames gives = Checks.meadowOf("n9 9 0;n9 9 0;a2 0 5 3;a1 1 5 3;m1;r5;");
        due("least harm", gives.plan(3, -1), 0);
        due("name 0 gives way", gives.plan(3, 0), 2);
        due("name 1 has month 0", gives.plan(3, 1), 1);
    }

    private static void planLost() {
        CHECKS.says("ACTS of NAMES that GRAZE, or are LOST, do HARM");
        GrazedNames x = Checks.meadowOf("n9 9 0;n9 9 0;a2 0 5 3;a2 1 5 4;m1;r5;w10;");
        x.sends(0);
        x.month(0);
        due("plan(2, -1)", x.plan(2, -1), 3);
        due("a lost one never grazes", x.plan(2, 0), 0);
        due("the other has the room", x.plan(2, 1), 1);
        GrazedNames rested = Checks.meadowOf("n9 0 0;a1 0 1 7;w10;");
        rested.sends(0);
        rested.month(0);
        due("a lost one that would bear it", rested.plan(1, -1), 7);
        due("so by LAW", rested.law(30), 7);
    }

    private static void planAnew() {
        CHECKS.says("(As things are NOW; nothing is changed; no wolves in PLAN, LAW.)");
        GrazedNames x = Checks.meadowOf("n9 0 0;n9 9 0;a0 0 1 3;a1 1 5 4;m1;r5;");
        x.sends(0);
        due("who grazes may act in the plan", x.plan(2, -1), 0);
        due("and has no bits", x.plan(2, 0), 0);
        due("the room is the other's", x.plan(2, 1), 1);
        due("but it grazes still", x.now(1), 1);
        x.calls(0);
        x.acts(0);
        due("what is met is not met again", x.plan(1, -1), 0);
        GrazedNames tired = Checks.meadowOf("n9 0 0;a0 0 9 3;a1 0 9 3;r9;");
        tired.acts(0);
        due("tired by what is met, it may rest in its month", tired.plan(2, -1), 0);
        due("in THE MONTH", tired.plan(2, 0), 1);
    }

    /** Asked again and again, for more and for fewer months, each answers what it did. */
    private static void again() {
        CHECKS.says("(As things are NOW; nothing is changed; no wolves in PLAN, LAW.)");
        GrazedNames x = Checks.meadowOf("n9 9 0;n9 9 0;n1 1 0;a1 0 5 3;a1 1 5 4;a1 2 9 9;m1;r5;");
        int[] harms = {0, 0, 12, 12, 12, 12};
        for (int round = 0; round < 5; round++) {
            for (int n = 1; n <= 5; n++) {
                due("round " + round + ", plan(" + n + ", -1)", x.plan(n, -1), harms[n]);
                due("round " + round + ", plan(" + n + ", 0)", x.plan(n, 0), 0);
                due("round " + round + ", plan(" + n + ", 1)", x.plan(n, 1), n == 1 ? 0 : 1);
                due("round " + round + ", plan(" + n + ", 2)", x.plan(n, 2), 0);
            }
            due("round " + round + ", law(9)", x.law(9), 13);
            due("round " + round + ", law(10)", x.law(10), 16);
            due("round " + round + ", BEST", x.now(5), 0);
        }
    }

    /** Behind more names, behind none, and with a plan made of each: nothing of an earlier plan is left. */
    private static void planOfTheNextText() {
        CHECKS.says("THE TEXT tells all anew");
        String three = "n9 9 0;n9 9 0;n1 1 0;a1 0 5 3;a1 1 5 4;a1 2 9 9;m1;r5;";
        String six = "n1 1 0;".repeat(6) + "a0 0 9 1;a0 1 9 2;a0 2 9 3;a0 3 9 4;a0 4 9 5;a0 5 9 6;";
        String[] texts = {six, three, "", three, six};
        int[] harms = {21, 12, 0, 12, 21};
        int[] bits = {0, 1, BAD, 1, 0};
        int[] laws = {21, 16, 0, 16, 21};
        GrazedNames x = new GrazedNames();
        for (int i = 0; i < texts.length; i++) {
            Checks.tell(x, texts[i]);
            x.meadow();
            due("plan(2, -1) of '" + texts[i] + "'", x.plan(2, -1), harms[i]);
            due("plan(2, 1) of '" + texts[i] + "'", x.plan(2, 1), bits[i]);
            due("law(30) of '" + texts[i] + "'", x.law(30), laws[i]);
        }
    }

    private static void planOfTheLastCall() {
        CHECKS.says("An object is used for at most 512 calls after it has been made");
        String text = tiredOnes(6, 4, 2) + "m1;";
        GrazedNames x = Checks.meadowOf(text);
        int[] bits = {0, 0, 1, 2, 4, 8};
        for (int call = text.length() + 2; call <= 512; call++) {
            int p = call % 6;
            due("call " + call + ", plan(5, " + p + ")", x.plan(5, p), bits[p]);
        }
    }

    private static void tenActs() {
        CHECKS.says("(10 at most): MONTH (0 .. 11), NAME, TIRING (1 .. 9), HARM (1 .. 9).");
        GrazedNames most = Checks.meadowOf("n1 1 0;".repeat(6) + "a4 5 9 9;".repeat(10));
        due("all do harm, plan(5, -1)", most.plan(5, -1), 90);
        due("all do harm, plan(4, -1)", most.plan(4, -1), 0);
        due("all do harm, law(30)", most.law(30), 90);
        GrazedNames least = Checks.meadowOf("n10 0 0;" + "a0 0 1 9;".repeat(10));
        due("all are met, plan(1, -1)", least.plan(1, -1), 0);
        due("all are met, law(30)", least.law(30), 0);
        due("none is met, law(0)", least.law(0), 90);
        GrazedNames last = Checks.meadowOf("n9 0 0;" + "a0 0 1 9;".repeat(9) + "a0 0 1 7;");
        due("the last is too much, plan(1, -1)", last.plan(1, -1), 7);
    }

    private static void metAsTold() {
        CHECKS.says("by ACTS of that MONTH by numbers that are not MET, each is MET as told, "
            + "if it is not too much for it, else its HARM comes");
        due("just as much as it bears", Checks.meadowOf("n5 2 0;a0 0 3 4;").plan(1, -1), 0);
        due("one too much", Checks.meadowOf("n5 3 0;a0 0 3 4;").plan(1, -1), 4);
        due("by LAW, just as much", Checks.meadowOf("n5 2 0;a0 0 3 4;").law(30), 0);
        due("by LAW, one too much", Checks.meadowOf("n5 3 0;a0 0 3 4;").law(30), 4);
        GrazedNames skips = Checks.meadowOf("n5 3 0;a0 0 3 4;a0 0 2 5;");
        due("one that is too much is left out, the next is met", skips.plan(1, -1), 4);
        GrazedNames order = Checks.meadowOf("n5 0 0;a0 0 4 1;a0 0 5 9;a0 0 1 9;");
        due("by numbers, not by harm", order.plan(1, -1), 9);
        due("by numbers, by LAW", order.law(30), 9);
        GrazedNames next = Checks.meadowOf("n5 0 0;a1 0 5 2;a0 0 3 4;");
        due("an earlier month goes ahead of a lower number", next.plan(1, -1) + next.plan(2, -1), 2);
    }

    private static void restNotBelowNothing() {
        CHECKS.says("then those that GRAZE are REST less TIRED.");
        GrazedNames x = Checks.meadowOf("n9 2 0;a1 0 9 5;a1 0 1 3;r5;");
        due("plan(2, -1)", x.plan(2, -1), 3);
        due("plan(2, 0)", x.plan(2, 0), 1);
        due("law(1)", x.law(1), 3);
        GrazedNames just = Checks.meadowOf("n9 5 0;a1 0 9 5;r5;");
        due("rested to 0, plan(2, -1)", just.plan(2, -1), 0);
        GrazedNames more = Checks.meadowOf("n9 6 0;a1 0 9 5;r5;");
        due("rested to 1, plan(2, -1)", more.plan(2, -1), 5);
    }

    private static void noWolves() {
        CHECKS.says("(As things are NOW; nothing is changed; no wolves in PLAN, LAW.)");
        GrazedNames none = Checks.meadowOf("n9 9 0;a1 0 5 3;a11 0 5 4;w0;");
        GrazedNames all = Checks.meadowOf("n9 9 0;a1 0 5 3;a11 0 5 4;w10;");
        for (int n = 1; n <= 5; n++) {
            due("plan(" + n + ", -1)", all.plan(n, -1), none.plan(n, -1));
            due("plan(" + n + ", 0)", all.plan(n, 0), n == 1 ? 0 : 1);
        }
        for (int t = 0; t <= 30; t++) {
            due("law(" + t + ")", all.law(t), none.law(t));
        }
        due("law(5)", all.law(5), 0);
    }

    private static void lawNumbers() {
        CHECKS.says("LAW of t (0 .. 30)");
        GrazedNames x = Checks.meadowOf("n30 30 0;n30 29 0;a0 1 1 3;");
        due("law(-1)", x.law(-1), BAD);
        due("law(0)", x.law(0), 3);
        due("law(29)", x.law(29), 3);
        due("law(30)", x.law(30), 0);
        due("law(31)", x.law(31), BAD);
        due("law(MIN)", x.law(Integer.MIN_VALUE), BAD);
        due("law(MAX)", x.law(Integer.MAX_VALUE), BAD);
    }

    private static void lawTiredAsItBegins() {
        CHECKS.says("those NAMES GRAZE that are not LOST and t or more TIRED as it begins");
        GrazedNames x = Checks.meadowOf("n9 5 0;a0 0 1 4;");
        due("one less", x.law(4), 4);
        due("just as tired", x.law(5), 4);
        due("one more", x.law(6), 0);
        GrazedNames within = Checks.meadowOf("n9 0 0;a0 0 5 1;a1 0 1 4;");
        due("tired by the month's own act, it rests in the next", within.law(5), 4);
        due("not so tired", within.law(6), 0);
        due("all rest always", within.law(0), 5);
        due("not tired, but 0 or more", Checks.meadowOf("n9 0 0;a0 0 1 4;").law(0), 4);
        due("not tired", Checks.meadowOf("n9 0 0;a0 0 1 4;").law(1), 0);
    }

    private static void lawRoom() {
        CHECKS.says("of like ones the lower, ROOM at most");
        int[] harms = {0, 1, 3, 6, 10};
        for (int room = 1; room <= 4; room++) {
            GrazedNames x = Checks.meadowOf(tiredOnes(6, 0, 1) + "m" + room + ";");
            due("room " + room + ", law(9)", x.law(9), harms[room]);
            due("room " + room + ", law(10)", x.law(10), 0);
        }
        due("room for more than there are", Checks.meadowOf(tiredOnes(3, 0, 1) + "m4;").law(9), 6);
        GrazedNames turns = Checks.meadowOf("n9 9 0;n9 9 0;a1 0 1 3;a1 1 1 4;m1;r2;");
        due("the next month the other, who is more tired", turns.law(1), 4);
    }

    private static void lawMostTiredAhead() {
        CHECKS.says("the most TIRED ones ahead");
        StringBuilder text = new StringBuilder();
        for (int p = 0; p < 6; p++) {
            text.append("n10 " + (p + 4) + " 0;");
        }
        for (int p = 0; p < 6; p++) {
            text.append("a0 " + p + " 1 " + (p + 1) + ";");
        }
        int[] harms = {0, 6, 11, 15, 18};
        for (int room = 1; room <= 4; room++) {
            GrazedNames x = Checks.meadowOf(text + "m" + room + ";");
            due("room " + room + ", law(0)", x.law(0), harms[room]);
            due("room " + room + ", law(9)", x.law(9), 6);
            due("room " + room + ", law(10)", x.law(10), 0);
        }
        GrazedNames three = Checks.meadowOf(text + "m4;");
        due("fewer than there is room for", three.law(7), 15);
        due("not the most harmful, but the most tired",
            Checks.meadowOf("n10 8 0;n10 9 0;a0 0 1 9;a0 1 1 1;m1;").law(0), 1);
    }

    private static void lawLost() {
        CHECKS.says("those NAMES GRAZE that are not LOST");
        GrazedNames x = Checks.meadowOf("n9 9 0;n9 5 0;a1 1 1 7;m1;r1;w10;");
        x.sends(0);
        x.month(0);
        due("the lost one, 8 tired, takes no room", x.law(5), 7);
        due("law(6)", x.law(6), 0);
    }

    private static void lawMonths() {
        CHECKS.says("in each MONTH from THE MONTH to the last");
        GrazedNames x = Checks.meadowOf("n1 1 0;a0 0 9 5;a1 0 9 7;a11 0 9 4;");
        int[] harms = {16, 11, 4, 4, 4, 4, 4, 4, 4, 4, 4, 4, 0};
        for (int month = 0; month <= 12; month++) {
            due("month " + month + ", law(30)", x.law(30), harms[month]);
            due("month " + month + ", law(0)", x.law(0), harms[month]);
            due("month " + month + ", law(31)", x.law(31), BAD);
            x.month(0);
        }
    }

    private static void lawMetAndGrazing() {
        CHECKS.says("(As things are NOW; nothing is changed; no wolves in PLAN, LAW.)");
        GrazedNames x = Checks.meadowOf("n9 0 0;a0 0 5 3;a0 0 1 4;");
        x.sends(0);
        due("who grazes now need not by LAW", x.law(30), 0);
        x.calls(0);
        x.acts(0);
        due("what is met does no harm", x.law(5), 4);
        due("and doesn't tire again", x.law(6), 0);
    }

    private static void best() {
        CHECKS.says("BEST: the t of least HARM, of several the least.");
        due("30", Checks.meadowOf("n30 29 0;a0 0 1 1;").now(5), 30);
        due("29", Checks.meadowOf("n30 28 0;a0 0 1 1;").now(5), 29);
        due("1", Checks.meadowOf("n30 0 0;a0 0 1 1;").now(5), 1);
        due("5 to 9 are good", Checks.meadowOf("n9 9 0;a1 0 5 3;").now(5), 5);
        GrazedNames x = Checks.meadowOf("n9 9 0;a1 0 5 3;");
        Checks.months(x, 1);
        due("too late to rest", x.now(5), 0);
    }

    private static void bestOfSeveral() {
        CHECKS.says("BEST: the t of least HARM, of several the least.");
        due("no names", new GrazedNames().now(5), 0);
        due("no acts", Checks.meadowOf("n30 30 0;").now(5), 0);
        due("harm whatever one does", Checks.meadowOf("n1 1 0;a0 0 9 9;").now(5), 0);
        GrazedNames x = Checks.meadowOf("n30 29 0;a11 0 1 1;");
        Checks.months(x, 11);
        due("in the last month", x.now(5), 30);
        x.month(0);
        due("when the year is over", x.now(5), 0);
    }

    private static void fraction(String call, int upper, int lower, long wantUpper, long wantLower) {
        due(call + ", upper", upper, wantUpper);
        due(call + ", lower", lower, wantLower);
    }

    private static void meanNumbers() {
        CHECKS.says("MEAN: upper (what = 0), lower number (1), in least terms. BAD.");
        GrazedNames x = Checks.meadowOf("n9 0 0;a1 0 1 5;w4;");
        due("mean(-1)", x.mean(-1), BAD);
        due("mean(2)", x.mean(2), BAD);
        due("mean(MIN)", x.mean(Integer.MIN_VALUE), BAD);
        due("mean(MAX)", x.mean(Integer.MAX_VALUE), BAD);
        fraction("none grazes", x.mean(0), x.mean(1), 0, 1);
        x.sends(0);
        fraction("20 by 10", x.mean(0), x.mean(1), 2, 1);
    }

    private static void meanLaterMonths() {
        CHECKS.says("WOLVES by 10 times HARM of its ACTS of later MONTHS, together: a fraction.");
        GrazedNames x = Checks.meadowOf("n9 0 0;n9 0 0;a0 0 1 9;a1 0 1 3;a2 0 1 2;a11 0 1 1;a5 1 1 9;w10;");
        int[] later = {6, 3, 1, 1, 1, 1, 1, 1, 1, 1, 1, 0, 0};
        for (int month = 0; month <= 12; month++) {
            x.sends(0);
            fraction("month " + month, x.mean(0), x.mean(1), later[month], 1);
            x.calls(0);
            fraction("month " + month + ", called", x.mean(0), x.mean(1), 0, 1);
            x.month(0);
        }
    }

    private static void meanOfWolves() {
        CHECKS.says("MEAN: for each NAME that GRAZES WOLVES by 10");
        for (int wolves = 0; wolves <= 10; wolves++) {
            for (int harm = 1; harm <= 9; harm++) {
                GrazedNames x = Checks.meadowOf("n9 0 0;a1 0 1 " + harm + ";w" + wolves + ";");
                x.sends(0);
                int common = BigInteger.valueOf(wolves * harm).gcd(BigInteger.TEN).intValue();
                fraction("w" + wolves + ", harm " + harm, x.mean(0), x.mean(1), wolves * harm / common, 10 / common);
            }
        }
        GrazedNames most = Checks.meadowOf("n9 0 0;" + "a11 0 9 9;".repeat(10) + "w10;");
        most.sends(0);
        fraction("the most", most.mean(0), most.mean(1), 90, 1);
        GrazedNames four = Checks.meadowOf("n9 0 0;".repeat(6) + "a1 0 1 1;a1 1 1 2;a1 2 1 4;a1 3 1 8;a1 5 1 9;m4;w3;");
        for (int p = 0; p < 4; p++) {
            four.sends(p);
        }
        fraction("four together", four.mean(0), four.mean(1), 9, 2);
    }

    private static void meanOfLost() {
        CHECKS.says("MEAN: for each NAME that GRAZES");
        GrazedNames x = Checks.meadowOf("n9 0 0;a1 0 1 5;a2 0 1 5;w10;");
        x.sends(0);
        fraction("grazing", x.mean(0), x.mean(1), 10, 1);
        x.month(0);
        fraction("lost", x.mean(0), x.mean(1), 0, 1);
    }

    private static void homeNumbers() {
        CHECKS.says("HOME by k (0 .. 3), n (0 .. 3), j (0 .. 2)");
        GrazedNames x = new GrazedNames();
        int[] wrong = {Integer.MIN_VALUE, -2, -1, 4, 5, Integer.MAX_VALUE};
        for (int no : wrong) {
            due("home(" + no + ", 3, 2, 0)", x.home(no, 3, 2, 0), BAD);
            due("home(0, " + no + ", 2, 0)", x.home(0, no, 2, 0), BAD);
            due("home(0, 3, " + no + ", 0)", x.home(0, 3, no, 0), BAD);
            due("home(0, 3, 2, " + no + ")", x.home(0, 3, 2, no), BAD);
        }
        due("home(3, 3, 3, 0)", x.home(3, 3, 3, 0), BAD);
        due("home(3, 3, 2, 2)", x.home(3, 3, 2, 2), BAD);
        due("home(3, 3, 2, 0)", x.home(3, 3, 2, 0), 531441);
        due("home(3, 3, 2, 1)", x.home(3, 3, 2, 1), 1000000);
        due("home(0, 0, 0, 0)", x.home(0, 0, 0, 0), 1);
        due("home(0, 0, 0, 1)", x.home(0, 0, 0, 1), 1);
        due("home(3, 0, 0, 0)", x.home(3, 0, 0, 0), 0);
        due("home(3, 0, 0, 1)", x.home(3, 0, 0, 1), 1);
    }

    private static long power(long base, int times) {
        return BigInteger.valueOf(base).pow(times).longValueExact();
    }

    /** Sums over each set of names that come home. */
    private static void homeEach() {
        CHECKS.says("each by itself is not LOST in any: that k at least are not: a fraction.");
        for (int wolves = 0; wolves <= 10; wolves++) {
            GrazedNames x = Checks.meadowOf("w" + wolves + ";");
            for (int i = 0; i < 4 * 4 * 3; i++) {
                int k = i % 4;
                int n = i / 4 % 4;
                int j = i / 16;
                long stays = power(10 - wolves, j);
                long goes = power(10, j) - stays;
                long upper = 0;
                for (int set = 0; set < 1 << n; set++) {
                    int home = Integer.bitCount(set);
                    upper += home >= k ? power(stays, home) * power(goes, n - home) : 0;
                }
                long lower = power(power(10, j), n);
                long common = BigInteger.valueOf(upper).gcd(BigInteger.valueOf(lower)).longValueExact();
                fraction("w" + wolves + ", home(" + k + ", " + n + ", " + j + ")", x.home(k, n, j, 0),
                    x.home(k, n, j, 1), upper / common, lower / common);
            }
        }
    }
}
