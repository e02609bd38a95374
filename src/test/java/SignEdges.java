/** Promises 17 to 22 at each bound that the document names: strays by their marks, trodden grass. */
public final class SignEdges {
    private static final int BAD = -1, STATE = -2, FULL = -3, NONE = -9;
    private static final String NAME = "n9 0 0;";
    private static final Checks CHECKS = new Checks();

    private static void due(String call, long got, long want) {
        CHECKS.due(call, got, want);
    }

    public static void main(String[] args) {
        sawNumbers();
        sawAtMost();
        strayNumbers();
        differingByOneAtMost();
        unlikeNames();
        asManyAsThereAre();
        notLostOnes();
        sure();
        foundSets();
        foundNumbers();
        foundAtMost();
        noMoreThanRoom();
        lostOrNot();
        justSoMany();
        canNumbers();
        inAllAndInSome();
        askNone();
        askTheGreaterPart();
        askTheLowest();
        forgotten();
        forgottenWhenFull();
        CHECKS.end();
    }

    private static void sawNumbers() {
        CHECKS.says("SEEN (6 at most): a stray with MARKS (0 .. 31).");
        GrazedNames x = Checks.meadowOf(NAME);
        due("saw(-1)", x.saw(-1), BAD);
        due("saw(32)", x.saw(32), BAD);
        due("saw(MIN)", x.saw(Integer.MIN_VALUE), BAD);
        due("saw(MAX)", x.saw(Integer.MAX_VALUE), BAD);
        due("count(5)", x.count(5), 0);
        due("saw(0)", x.saw(0), 1);
        due("saw(31)", x.saw(31), 2);
        due("count(5) then", x.count(5), 2);
    }

    private static void sawAtMost() {
        CHECKS.says("SEEN: how many there are. BAD; FULL.");
        GrazedNames x = new GrazedNames();
        for (int i = 1; i <= 6; i++) {
            due("stray " + i + ", though there are no names", x.saw(i), i);
        }
        due("stray 7", x.saw(7), FULL);
        due("stray 7, BAD ahead of FULL", x.saw(32), BAD);
        due("stray 7, BAD ahead of FULL too", x.saw(-1), BAD);
        due("count(5)", x.count(5), 6);
        due("none of six is a name", x.stray(-1), 0);
        due("stray(5)", x.stray(5), NONE);
        due("stray(6)", x.stray(6), BAD);
    }

    private static void strayNumbers() {
        CHECKS.says("WAYS (i = -1), SURE of a stray; NONE. BAD.");
        GrazedNames x = Checks.meadowOf(NAME.repeat(6));
        due("none seen, stray(-2)", x.stray(-2), BAD);
        due("none seen, stray(-1)", x.stray(-1), 1);
        due("none seen, stray(0)", x.stray(0), BAD);
        for (int i = 0; i < 6; i++) {
            x.saw(0);
            due("stray(" + i + ")", x.stray(i), NONE);
            due("stray(" + (i + 1) + ")", x.stray(i + 1), BAD);
        }
        due("stray(MIN)", x.stray(Integer.MIN_VALUE), BAD);
        due("stray(MAX)", x.stray(Integer.MAX_VALUE), BAD);
    }

    private static void differingByOneAtMost() {
        CHECKS.says("MARKS of each differing from those SEEN by one at most");
        for (int marks = 0; marks <= 31; marks += 31) {
            for (int seen = 0; seen <= 31; seen++) {
                GrazedNames x = Checks.meadowOf("n9 0 " + marks + ";");
                x.saw(seen);
                boolean near = Integer.bitCount(marks ^ seen) <= 1;
                due("marks " + marks + ", saw(" + seen + "), ways", x.stray(-1), near ? 1 : 0);
                due("marks " + marks + ", saw(" + seen + "), sure", x.stray(0), near ? 0 : NONE);
            }
        }
        GrazedNames x = Checks.meadowOf("n9 0 3;");
        x.saw(12);
        due("as many marks, but others", x.stray(-1), 0);
        GrazedNames one = Checks.meadowOf("n9 0 1;");
        one.saw(2);
        due("one mark for another are two that differ", one.stray(-1), 0);
    }

    private static void unlikeNames() {
        CHECKS.says("in how many ways all strays SEEN can be unlike NAMES");
        GrazedNames x = Checks.meadowOf("n9 0 0;n9 0 31;");
        x.saw(0);
        due("one", x.stray(-1), 1);
        x.saw(1);
        due("both would be name 0", x.stray(-1), 0);
        due("so none is sure", x.stray(0), NONE);
        due("nor the other", x.stray(1), NONE);
    }

    private static void asManyAsThereAre() {
        CHECKS.says("in how many ways all strays SEEN can be unlike NAMES");
        GrazedNames x = Checks.meadowOf(NAME.repeat(6));
        int[] ways = {1, 6, 30, 120, 360, 720, 720};
        for (int seen = 0; seen <= 6; seen++) {
            due(seen + " of six", x.stray(-1), ways[seen]);
            x.saw(0);
        }
        GrazedNames five = Checks.meadowOf(NAME.repeat(5));
        for (int i = 0; i < 5; i++) {
            five.saw(1);
        }
        due("five of five", five.stray(-1), 120);
        five.saw(1);
        due("six of five", five.stray(-1), 0);
    }

    private static void notLostOnes() {
        CHECKS.says("can be unlike NAMES that are not LOST");
        GrazedNames x = Checks.meadowOf(NAME.repeat(2) + "w10;");
        x.saw(0);
        due("two", x.stray(-1), 2);
        x.sends(0);
        due("one that grazes may be it", x.stray(-1), 2);
        x.month(0);
        due("a lost one may not", x.stray(-1), 1);
        due("sure", x.stray(0), 1);
        x.sends(1);
        x.month(0);
        due("all are lost", x.stray(-1), 0);
        due("none is sure", x.stray(0), NONE);
        x.undo();
        due("undone", x.stray(0), 1);
        GrazedNames none = Checks.meadowOf(NAME + "w10;");
        none.sends(0);
        none.month(0);
        due("none seen, all lost: one way", none.stray(-1), 1);
    }

    private static void sure() {
        CHECKS.says("SURE of a stray (0 the first): which NAME it is in all of them; NONE (not the same in all, "
            + "there are none).");
        GrazedNames x = Checks.meadowOf("n9 0 0;n9 0 3;n9 0 31;n9 0 0;");
        x.saw(31);
        due("the only one", x.stray(0), 2);
        x.saw(2);
        due("two, or three", x.stray(-1), 3);
        due("not the same in all", x.stray(1), NONE);
        due("still the same", x.stray(0), 2);
        x.saw(16);
        due("name 0 or 3 is the third", x.stray(2), NONE);
        due("ways", x.stray(-1), 4);
        x.saw(8);
        due("so both are taken", x.stray(-1), 2);
        due("and the second is name 1", x.stray(1), 1);
        due("the third is not sure", x.stray(2), NONE);
        due("nor the fourth", x.stray(3), NONE);
    }

    private static void foundSets() {
        CHECKS.says("of a set of NAMES (bits; one at least) just n (0 .. 4) did");
        for (int names = 1; names <= 6; names++) {
            GrazedNames x = Checks.meadowOf(NAME.repeat(names));
            due(names + " names, found(0, 0)", x.found(0, 0), BAD);
            due(names + " names, one name too many", x.found(1 << names, 0), BAD);
            due(names + " names, that one too", x.found((1 << names) + 1, 0), BAD);
            due(names + " names, found(-1, 0)", x.found(-1, 0), BAD);
            due(names + " names, found(1, 0)", x.found(1, 0), 1);
            due(names + " names, all of them", x.found((1 << names) - 1, 0), 2);
            due(names + " names, the last", x.found(1 << names - 1, 0), 3);
            due(names + " names, found(MIN, 0)", x.found(Integer.MIN_VALUE, 0), BAD);
            due(names + " names, found(MAX, 0)", x.found(Integer.MAX_VALUE, 0), BAD);
        }
        GrazedNames none = new GrazedNames();
        due("no names, found(0, 0)", none.found(0, 0), BAD);
        due("no names, found(1, 0)", none.found(1, 0), BAD);
    }

    private static void foundNumbers() {
        CHECKS.says("of a set of NAMES (bits; one at least) just n (0 .. 4) did");
        GrazedNames x = Checks.meadowOf(NAME.repeat(6) + "m1;");
        due("found(1, -1)", x.found(1, -1), BAD);
        due("found(63, 5)", x.found(63, 5), BAD);
        due("found(1, MIN)", x.found(1, Integer.MIN_VALUE), BAD);
        due("found(1, MAX)", x.found(1, Integer.MAX_VALUE), BAD);
        due("found(1, 0)", x.found(1, 0), 1);
        due("found(1, 4), more than the set or ROOM", x.found(1, 4), 2);
        due("none can be", x.can(0), 0);
    }

    private static void foundAtMost() {
        CHECKS.says("FOUND: how much there is. BAD; FULL.");
        GrazedNames x = Checks.meadowOf(NAME.repeat(2));
        for (int i = 1; i <= 6; i++) {
            due("thing " + i, x.found(3, 1), i);
        }
        due("thing 7", x.found(3, 1), FULL);
        due("thing 7, no set", x.found(0, 1), BAD);
        due("thing 7, no such name", x.found(4, 1), BAD);
        due("thing 7, no such number", x.found(3, 5), BAD);
        due("count(6)", x.count(6), 6);
        due("a refused one doesn't count", x.can(0), 2);
        due("the seventh would have left one", x.found(1, 1) + x.can(0), FULL + 2);
    }

    private static void noMoreThanRoom() {
        CHECKS.says("GRASS: in some month no more than ROOM NAMES grazed");
        int[] sets = {0, 7, 22, 42, 57};
        for (int room = 1; room <= 4; room++) {
            GrazedNames x = Checks.meadowOf(NAME.repeat(6) + "m" + room + ";");
            due("room " + room + ", can(0)", x.can(0), sets[room]);
            due("room " + room + ", can(1)", x.can(1), 0);
            due("room " + room + ", can(2)", x.can(2), 63);
            x.found(63, room);
            due("room " + room + ", just full", x.can(0), sets[room] - (room == 1 ? 1 : sets[room - 1]));
            x.forget();
            if (room < 4) {
                x.found(63, room + 1);
                due("room " + room + ", fuller", x.can(0), 0);
            }
        }
        due("fewer than there is room for", Checks.meadowOf(NAME.repeat(3) + "m4;").can(0), 8);
        due("just as many", Checks.meadowOf(NAME.repeat(4) + "m4;").can(0), 16);
        due("one too many", Checks.meadowOf(NAME.repeat(5) + "m4;").can(0), 31);
    }

    private static void lostOrNot() {
        CHECKS.says("(of all there are, LOST or not)");
        GrazedNames x = Checks.meadowOf(NAME.repeat(3) + "m2;w10;");
        due("three names", x.can(0), 7);
        x.sends(1);
        due("who grazes now is another thing", x.can(0), 7);
        x.month(0);
        due("one is lost", x.can(0), 7);
        due("and may have grazed", x.can(2), 7);
        due("found(2, 1)", x.found(2, 1), 1);
        due("it did", x.can(1), 2);
    }

    private static void justSoMany() {
        CHECKS.says("CAN: sets by which all that was FOUND is so");
        int[] sets = {1, 4, 6, 4, 1};
        for (int n = 0; n <= 4; n++) {
            GrazedNames x = Checks.meadowOf(NAME.repeat(4) + "m4;");
            x.found(15, n);
            due("just " + n + " of four", x.can(0), sets[n]);
        }
        GrazedNames x = Checks.meadowOf(NAME.repeat(4) + "m4;");
        x.found(3, 1);
        due("one of two", x.can(0), 8);
        x.found(12, 2);
        due("both others", x.can(0), 2);
        x.found(1, 1);
        due("the one", x.can(0), 1);
        x.found(1, 1);
        due("the same again", x.can(0), 1);
        x.found(15, 3);
        due("three of all", x.can(0), 1);
        x.found(2, 1);
        due("the sixth counts too", x.can(0), 0);
    }

    private static void canNumbers() {
        CHECKS.says("CAN: how many (what = 0), in all (1; NONE), in some (2). BAD.");
        GrazedNames x = Checks.meadowOf(NAME);
        due("can(-1)", x.can(-1), BAD);
        due("can(0)", x.can(0), 2);
        due("can(1)", x.can(1), 0);
        due("can(2)", x.can(2), 1);
        due("can(3)", x.can(3), BAD);
        due("can(MIN)", x.can(Integer.MIN_VALUE), BAD);
        due("can(MAX)", x.can(Integer.MAX_VALUE), BAD);
    }

    private static void inAllAndInSome() {
        CHECKS.says("in all of them (bits; NONE: there are none); in some.");
        GrazedNames x = Checks.meadowOf(NAME.repeat(6) + "m2;");
        x.found(32, 1);
        due("in all", x.can(1), 32);
        due("in some", x.can(2), 63);
        x.found(31, 0);
        due("one set: in all", x.can(1), 32);
        due("one set: in some", x.can(2), 32);
        due("one set", x.can(0), 1);
        x.found(32, 0);
        due("none", x.can(0), 0);
        due("in all of none", x.can(1), NONE);
        due("in some of none", x.can(2), 0);
        GrazedNames first = Checks.meadowOf(NAME.repeat(3));
        first.found(1, 1);
        due("the first name in all", first.can(1), 1);
        GrazedNames empty = Checks.meadowOf(NAME.repeat(2));
        empty.found(3, 0);
        due("the empty set is one", empty.can(0), 1);
        due("in all of it", empty.can(1), 0);
        due("in some of it", empty.can(2), 0);
    }

    private static void askNone() {
        CHECKS.says("NONE (one can be at most).");
        due("no names", new GrazedNames().ask(), NONE);
        GrazedNames x = Checks.meadowOf(NAME);
        due("two can be", x.ask(), 0);
        x.found(1, 1);
        due("one can be", x.ask(), NONE);
        x.found(1, 0);
        due("none can be", x.ask(), NONE);
        GrazedNames two = Checks.meadowOf(NAME.repeat(6) + "m4;");
        two.found(31, 4);
        two.found(15, 4);
        due("one of all six can be", two.can(0), 1);
        due("so none is asked", two.ask(), NONE);
    }

    private static void askTheGreaterPart() {
        CHECKS.says("ASK: the NAME by which, whether it grazed or not, the greater part of these is smallest");
        GrazedNames x = Checks.meadowOf(NAME.repeat(6) + "m1;");
        x.found(3, 0);
        due("those that are known are not asked", x.ask(), 2);
        x.forget();
        x.found(1, 1);
        due("room is full: one can be", x.ask(), NONE);
        GrazedNames half = Checks.meadowOf(NAME.repeat(5) + "m4;");
        half.found(7, 1);
        half.found(24, 1);
        due("three times two sets", half.can(0), 6);
        due("the one that halves them", half.ask(), 3);
        GrazedNames most = Checks.meadowOf(NAME.repeat(4) + "m3;");
        most.found(7, 2);
        due("three times two", most.can(0), 6);
        due("name 3 halves them, others are in two thirds", most.ask(), 3);
    }

    private static void askTheLowest() {
        CHECKS.says("the greater part of these is smallest, of several the lowest");
        for (int names = 1; names <= 6; names++) {
            due(names + " names", Checks.meadowOf(NAME.repeat(names) + "m4;").ask(), 0);
        }
        GrazedNames x = Checks.meadowOf(NAME.repeat(6) + "m4;");
        x.found(1, 0);
        due("the lowest of the others", x.ask(), 1);
        x.found(6, 2);
        due("the lowest of the last three", x.ask(), 3);
        GrazedNames last = Checks.meadowOf(NAME.repeat(6) + "m1;");
        last.found(31, 0);
        due("the last alone", last.ask(), 5);
        GrazedNames in = Checks.meadowOf(NAME.repeat(3) + "m4;");
        in.found(3, 1);
        in.found(6, 1);
        due("name 0 and 2, or name 1", in.can(0), 2);
        due("whichever: the lowest", in.ask(), 0);
    }

    private static void forgotten() {
        CHECKS.says("Nothing was SEEN, FOUND: how much both were.");
        GrazedNames x = Checks.meadowOf(NAME.repeat(2));
        due("nothing", x.forget(), 0);
        x.saw(1);
        due("one seen", x.forget(), 1);
        x.found(1, 1);
        due("one found", x.forget(), 1);
        due("nothing again", x.forget(), 0);
        due("stray(-1)", x.stray(-1), 1);
        due("stray(0)", x.stray(0), BAD);
        due("can(0)", x.can(0), 4);
        due("it can't be undone", x.undo(), STATE);
    }

    private static void forgottenWhenFull() {
        CHECKS.says("Nothing was SEEN, FOUND: how much both were.");
        GrazedNames x = Checks.meadowOf(NAME.repeat(2));
        x.sends(0);
        x.keep(0);
        for (int i = 0; i < 7; i++) {
            x.saw(31);
            x.found(3, 2);
        }
        due("six and six", x.forget(), 12);
        due("count(5)", x.count(5), 0);
        due("count(6)", x.count(6), 0);
        due("saw(0)", x.saw(0), 1);
        due("found(1, 0)", x.found(1, 0), 1);
        due("what was seen ahead is not", x.stray(-1), 2);
        due("what was found ahead is not", x.can(0), 2);
        due("who grazes stays", x.now(1), 1);
        due("what may be undone stays", x.now(6), 1);
        due("an image stays", x.back(0), 0);
    }
}
