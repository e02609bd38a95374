import java.util.List;

/**
 * "Refused, and nothing changes": twins do the same, one of them has a refused call besides, and every answer of theirs
 * is the same then. So it is with calls that only ask.
 */
public final class RefusalEdges {
    private static final int BAD = -1, STATE = -2, FULL = -3, NO = -1000000;
    private static final int MIN = Integer.MIN_VALUE, MAX = Integer.MAX_VALUE;
    private static final Checks CHECKS = new Checks();

    private interface Call {
        long on(GrazedNames x);
    }

    /** How an object came to be as it is; each is made anew for each call, as looking at it uses it up. */
    private enum Scene { NEW, EMPTY_HANDED, MID_YEAR, OVER, FULL_OF_ALL }

    public static void main(String[] args) {
        scenesAreAsMeant();
        CHECKS.says("Refused, and nothing changes, the first of these: BAD (a number is not as told, "
            + "or there is no such thing), STATE (as told), FULL.");
        for (Scene scene : Scene.values()) {
            badOfDone(scene);
            badOfLooks(scene);
            badOfSigns(scene);
            badOfImages(scene);
        }
        stateOfNothing();
        stateMidYear();
        stateOver();
        full();
        faults();
        CHECKS.says("(As things are NOW; nothing is changed; no wolves in PLAN, LAW.)");
        for (Scene scene : Scene.values()) {
            asksChangeNothing(scene);
        }
        CHECKS.end();
    }

    private static GrazedNames make(Scene scene) {
        switch (scene) {
            case NEW:
                return new GrazedNames();
            case EMPTY_HANDED:
                return Checks.meadowOf("n9 4 3;n8 8 5;a0 0 2 7;a0 1 1 3;");
            case MID_YEAR:
                return midYear();
            case OVER:
                return over();
            default:
                return fullOfAll();
        }
    }

    /** Ten may be undone, both kinds of signs, one image, one grazes, one is lost, one act is met, a text begun. */
    private static GrazedNames midYear() {
        GrazedNames x = Checks.meadowOf("n9 4 3;n8 8 5;n9 0 3;a0 0 2 7;a2 1 1 6;a3 2 1 6;a2 0 1 1;m1;r3;w10;");
        x.acts(0);
        x.sends(1);
        x.calls(1);
        x.sends(2);
        x.keep(0);
        x.month(7);
        for (int i = 0; i < 3; i++) {
            x.sends(1);
            x.calls(1);
        }
        x.month(8);
        x.sends(1);
        x.saw(3);
        x.saw(1);
        x.found(3, 1);
        x.found(4, 0);
        x.rate(3, 1);
        Checks.tell(x, "n7 7 7;m3;");
        return x;
    }

    private static GrazedNames over() {
        GrazedNames x = Checks.meadowOf("n9 4 3;n8 8 5;a11 0 2 7;w0;");
        x.sends(1);
        x.keep(1);
        Checks.months(x, 11);
        x.acts(0);
        x.month(9999);
        Checks.tell(x, "m1;");
        return x;
    }

    private static GrazedNames fullOfAll() {
        GrazedNames x = Checks.meadowOf("n9 4 3;n8 8 3;a0 0 2 7;");
        x.sends(0);
        x.sends(1);
        x.keep(0);
        x.keep(1);
        for (int i = 0; i < 6; i++) {
            x.saw(i == 0 ? 3 : 1);
            x.found(3, 1);
        }
        Checks.tell(x, "m1;" + " ".repeat(177));
        return x;
    }

    /** The scenes are what the refusals below rest on. */
    private static void scenesAreAsMeant() {
        int[][] now = {{0, 0, 0, 0, 0}, {0, 0, 0, 0, 0}, {2, 2, 4, 1, 0}, {12, 2, 0, 1, 0}, {0, 3, 0, 0, 0}};
        int[] undone = {0, 0, 10, 10, 2};
        int[][] counts = {{0, 0, 0}, {0, 0, 0}, {2, 2, 10}, {0, 0, 3}, {6, 6, 180}};
        for (Scene scene : Scene.values()) {
            GrazedNames x = make(scene);
            for (int what = 0; what <= 4; what++) {
                CHECKS.due(scene + ", now(" + what + ")", x.now(what), now[scene.ordinal()][what]);
            }
            CHECKS.due(scene + ", now(6)", x.now(6), undone[scene.ordinal()]);
            for (int what = 5; what <= 7; what++) {
                CHECKS.due(scene + ", count(" + what + ")", x.count(what), counts[scene.ordinal()][what - 5]);
            }
        }
    }

    private static void same(Scene scene, String call, List<String> got, List<String> want) {
        CHECKS.due(scene + ", behind " + call + ", answers", got.size(), want.size());
        for (int i = 0; i < Math.min(got.size(), want.size()); i++) {
            String both = scene + ", behind " + call + ": " + got.get(i) + ", due is " + want.get(i);
            CHECKS.holds(both, got.get(i).equals(want.get(i)));
        }
    }

    private static void refused(Scene scene, String name, Call call, long want) {
        GrazedNames x = make(scene);
        CHECKS.due(scene + ", " + name, call.on(x), want);
        same(scene, name, Look.at(x), Look.at(make(scene)));
    }

    private static void asks(Scene scene, String name, Call call) {
        GrazedNames x = make(scene);
        long once = call.on(x);
        CHECKS.due(scene + ", " + name + " again", call.on(x), once);
        same(scene, name, Look.at(x), Look.at(make(scene)));
    }

    private static void badOfDone(Scene scene) {
        int names = make(scene).count(0);
        int acts = make(scene).count(1);
        int[] noNames = {-1, names, MIN, MAX};
        for (int p : noNames) {
            refused(scene, "sends(" + p + ")", x -> x.sends(p), BAD);
            refused(scene, "calls(" + p + ")", x -> x.calls(p), BAD);
            refused(scene, "name(" + p + ", 0)", x -> x.name(p, 0), BAD);
            refused(scene, "rate(0, " + p + ")", x -> x.rate(0, p), NO);
            refused(scene, "rate(5, " + p + ")", x -> x.rate(5, p), NO);
        }
        int[] noActs = {-1, acts, MIN, MAX};
        for (int a : noActs) {
            refused(scene, "acts(" + a + ")", x -> x.acts(a), BAD);
            refused(scene, "act(" + a + ", 0)", x -> x.act(a, 0), BAD);
        }
        int[] noDraws = {-1, 10000, MIN, MAX};
        for (int z : noDraws) {
            refused(scene, "month(" + z + ")", x -> x.month(z), BAD);
        }
        int[] noLetters = {-1, 256, MIN, MAX};
        for (int letter : noLetters) {
            refused(scene, "type(" + letter + ")", x -> x.type(letter), BAD);
        }
    }

    private static void badOfLooks(Scene scene) {
        int names = make(scene).count(0);
        for (int no : new int[] {-1, 5}) {
            refused(scene, "name(0, " + no + ")", x -> x.name(0, no), BAD);
            refused(scene, "act(0, " + no + ")", x -> x.act(0, no), BAD);
        }
        for (int no : new int[] {-1, 7}) {
            refused(scene, "now(" + no + ")", x -> x.now(no), BAD);
        }
        for (int no : new int[] {-1, 8}) {
            refused(scene, "count(" + no + ")", x -> x.count(no), BAD);
        }
        for (int no : new int[] {-1, 0, 6}) {
            refused(scene, "plan(" + no + ", -1)", x -> x.plan(no, -1), BAD);
        }
        for (int no : new int[] {-2, names}) {
            refused(scene, "plan(1, " + no + ")", x -> x.plan(1, no), BAD);
            refused(scene, "plan(5, " + no + ")", x -> x.plan(5, no), BAD);
        }
        for (int no : new int[] {-1, 31}) {
            refused(scene, "law(" + no + ")", x -> x.law(no), BAD);
        }
        for (int no : new int[] {-1, 4}) {
            refused(scene, "mean(" + no + ")", x -> x.mean(no), BAD);
            refused(scene, "home(" + no + ", 3, 2, 1)", x -> x.home(no, 3, 2, 1), BAD);
            refused(scene, "home(3, " + no + ", 2, 1)", x -> x.home(3, no, 2, 1), BAD);
            refused(scene, "home(3, 3, " + no + ", 1)", x -> x.home(3, 3, no, 1), BAD);
            refused(scene, "home(3, 3, 2, " + no + ")", x -> x.home(3, 3, 2, no), BAD);
        }
    }

    private static void badOfSigns(Scene scene) {
        int names = make(scene).count(0);
        int seen = make(scene).count(5);
        for (int no : new int[] {-1, 32, MIN, MAX}) {
            refused(scene, "saw(" + no + ")", x -> x.saw(no), BAD);
        }
        for (int no : new int[] {-2, seen, MIN, MAX}) {
            refused(scene, "stray(" + no + ")", x -> x.stray(no), BAD);
        }
        for (int no : new int[] {-1, 0, 1 << names, MIN, MAX}) {
            refused(scene, "found(" + no + ", 0)", x -> x.found(no, 0), BAD);
        }
        for (int no : new int[] {-1, 5, MIN, MAX}) {
            refused(scene, "found(1, " + no + ")", x -> x.found(1, no), BAD);
        }
        for (int no : new int[] {-1, 3}) {
            refused(scene, "can(" + no + ")", x -> x.can(no), BAD);
        }
    }

    private static void badOfImages(Scene scene) {
        for (int no : new int[] {-1, 2, MIN, MAX}) {
            refused(scene, "keep(" + no + ")", x -> x.keep(no), BAD);
            refused(scene, "back(" + no + ")", x -> x.back(no), BAD);
        }
        for (int no : new int[] {-1, 6, MIN, MAX}) {
            refused(scene, "rate(" + no + ", 0)", x -> x.rate(no, 0), NO);
        }
    }

    private static void stateOfNothing() {
        for (Scene scene : new Scene[] {Scene.NEW, Scene.EMPTY_HANDED}) {
            refused(scene, "undo()", x -> x.undo(), STATE);
            refused(scene, "back(0)", x -> x.back(0), STATE);
            refused(scene, "back(1)", x -> x.back(1), STATE);
        }
        refused(Scene.EMPTY_HANDED, "calls(0)", x -> x.calls(0), STATE);
        refused(Scene.EMPTY_HANDED, "calls(1)", x -> x.calls(1), STATE);
        refused(Scene.EMPTY_HANDED, "acts(1), which is too much", x -> x.acts(1), STATE);
    }

    private static void stateMidYear() {
        Scene scene = Scene.MID_YEAR;
        refused(scene, "sends(1), which grazes", x -> x.sends(1), STATE);
        refused(scene, "sends(2), which is lost", x -> x.sends(2), STATE);
        refused(scene, "sends(0), without room", x -> x.sends(0), STATE);
        refused(scene, "calls(0), which does not graze", x -> x.calls(0), STATE);
        refused(scene, "calls(2), which is lost", x -> x.calls(2), STATE);
        refused(scene, "acts(0), which is met", x -> x.acts(0), STATE);
        refused(scene, "acts(1), whose name grazes", x -> x.acts(1), STATE);
        refused(scene, "acts(2), of a later month", x -> x.acts(2), STATE);
        refused(scene, "back(1)", x -> x.back(1), STATE);
    }

    private static void stateOver() {
        Scene scene = Scene.OVER;
        refused(scene, "month(0)", x -> x.month(0), STATE);
        refused(scene, "month(9999)", x -> x.month(9999), STATE);
        refused(scene, "plan(1, -1)", x -> x.plan(1, -1), STATE);
        refused(scene, "plan(5, 1)", x -> x.plan(5, 1), STATE);
        refused(scene, "acts(0)", x -> x.acts(0), STATE);
        refused(scene, "back(0)", x -> x.back(0), STATE);
    }

    private static void full() {
        Scene scene = Scene.FULL_OF_ALL;
        refused(scene, "type(0)", x -> x.type(0), FULL);
        refused(scene, "type(255)", x -> x.type(255), FULL);
        refused(scene, "type(32)", x -> x.type(32), FULL);
        refused(scene, "saw(0)", x -> x.saw(0), FULL);
        refused(scene, "saw(31)", x -> x.saw(31), FULL);
        refused(scene, "found(1, 0)", x -> x.found(1, 0), FULL);
        refused(scene, "found(3, 4)", x -> x.found(3, 4), FULL);
    }

    /** A text with a fault, on twins: one has it read, and both clear it then. */
    private static void faults() {
        CHECKS.says("-10 less FAULT: nothing changes.");
        String[] faulty = {"x", "m4;r1;w9;n9 9 9;x", "n1 1 1;n2 2 2;n3 3 3;n4 4 4;a11 3 9 9;a0 |", "m1;m1;", "w"};
        for (Scene scene : new Scene[] {Scene.NEW, Scene.EMPTY_HANDED, Scene.MID_YEAR, Scene.OVER}) {
            for (String text : faulty) {
                GrazedNames x = make(scene);
                GrazedNames twin = make(scene);
                Checks.tell(x, text);
                Checks.tell(twin, text);
                CHECKS.holds(scene + ", '" + text + "' has a fault", x.meadow() <= -10);
                CHECKS.due(scene + ", letters left", x.count(7), twin.count(7));
                x.clear();
                twin.clear();
                same(scene, "meadow() of '" + text + "'", Look.at(x), Look.at(twin));
            }
        }
    }

    private static void asksChangeNothing(Scene scene) {
        asks(scene, "name(0, 1)", x -> x.name(0, 1));
        asks(scene, "act(0, 4)", x -> x.act(0, 4));
        asks(scene, "now(5)", x -> x.now(5));
        asks(scene, "plan(1, -1)", x -> x.plan(1, -1));
        asks(scene, "plan(5, 0)", x -> x.plan(5, 0));
        asks(scene, "law(0)", x -> x.law(0));
        asks(scene, "law(30)", x -> x.law(30));
        asks(scene, "mean(0)", x -> x.mean(0));
        asks(scene, "home(2, 3, 1, 0)", x -> x.home(2, 3, 1, 0));
        asks(scene, "stray(-1)", x -> x.stray(-1));
        asks(scene, "stray(0)", x -> x.stray(0));
        asks(scene, "can(1)", x -> x.can(1));
        asks(scene, "ask()", x -> x.ask());
        asks(scene, "count(0)", x -> x.count(0));
        asks(scene, "trace()", x -> x.trace());
    }
}
