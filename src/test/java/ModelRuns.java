import java.util.Random;

/** Runs of calls drawn from a fixed seed, each answer held against the plain model's. */
public final class ModelRuns {
    private static final int RUNS = 400;
    private static final int CALLS = 250;
    private static final Checks CHECKS = new Checks();

    private final Random random;
    private final String run;
    private final GrazedNames x = new GrazedNames();
    private final Model model = new Model();

    private ModelRuns(int seed) {
        random = new Random(seed);
        run = "run " + seed + ": ";
    }

    public static void main(String[] args) {
        for (int seed = 0; seed < RUNS; seed++) {
            ModelRuns runs = new ModelRuns(seed);
            runs.read(runs.goodText());
            for (int i = 0; i < CALLS; i++) {
                runs.callOne();
            }
            runs.lookAtAll();
        }
        for (int seed = 0; seed < 4000; seed++) {
            ModelRuns runs = new ModelRuns(RUNS + seed);
            runs.read(runs.spoilt(runs.goodText()));
            runs.lookAtAll();
        }
        for (int seed = 0; seed < 150; seed++) {
            new ModelRuns(10000 + seed).planContested();
        }
        CHECKS.end();
    }

    /** Tired names with acts in late months: many like plans, and too little room for all. */
    private void planContested() {
        StringBuilder text = new StringBuilder();
        int names = between(4, 6);
        int n = between(3, 5);
        for (int p = 0; p < names; p++) {
            int strength = between(5, 15);
            text.append('n').append(strength).append(' ').append(between(strength - 2, strength)).append(" 0;");
        }
        for (int a = 0; a < 10; a++) {
            text.append('a').append(between(n - 2, n - 1)).append(' ').append(between(0, names - 1)).append(' ')
                .append(between(1, 9)).append(' ').append(between(1, 9)).append(';');
        }
        text.append('m').append(between(1, 3)).append(";r").append(between(2, 6)).append(';');
        read(text.toString());
        if (model.planCost(n) <= 4000000) {
            due("plan(" + n + ", -1) of " + text, x.plan(n, -1), model.plan(n, -1));
            for (int p = 0; p < names; p++) {
                due("plan(" + n + ", " + p + ") of " + text, x.plan(n, p), model.latestPlan(p));
            }
        }
    }

    private void due(String call, long got, long want) {
        CHECKS.due(run + call, got, want);
    }

    private int between(int least, int most) {
        return least + random.nextInt(most - least + 1);
    }

    private boolean chance(int ofHundred) {
        return random.nextInt(100) < ofHundred;
    }

    private String goodText() {
        StringBuilder text = new StringBuilder();
        int names = between(0, 6);
        int busy = between(0, 11);
        for (int p = 0; p < names; p++) {
            int strength = chance(70) ? between(1, 12) : between(1, 30);
            text.append('n').append(strength).append(' ').append(between(chance(50) ? strength / 2 : 0, strength))
                .append(' ').append(chance(60) ? between(0, 7) : between(0, 31)).append(';');
        }
        for (int a = names == 0 ? 10 : between(0, 4); a < 10; a++) {
            text.append('a').append(between(0, busy)).append(' ').append(between(0, names - 1)).append(' ')
                .append(between(1, 9)).append(' ').append(between(1, 9)).append(';');
        }
        if (chance(80)) {
            text.append('m').append(between(1, 4)).append(';');
        }
        if (chance(80)) {
            text.append('r').append(between(1, 9)).append(';');
        }
        if (chance(80)) {
            text.append('w').append(between(0, 10)).append(';');
        }
        return text.toString();
    }

    private String spoilt(String text) {
        StringBuilder spoilt = new StringBuilder(text);
        for (int i = between(1, 3); i > 0; i--) {
            String signs = "namrw; 0123456789" + (char) between(0, 255);
            char sign = signs.charAt(between(0, signs.length() - 1));
            int at = between(0, spoilt.length());
            if (chance(50) || at == spoilt.length()) {
                spoilt.insert(at, sign);
            } else if (chance(50)) {
                spoilt.setCharAt(at, sign);
            } else {
                spoilt.deleteCharAt(at);
            }
        }
        return spoilt.toString();
    }

    private void read(String text) {
        for (int i = 0; i < text.length(); i++) {
            int letter = text.charAt(i);
            due("type(" + letter + ")", x.type(letter), model.type(letter));
        }
        due("meadow() of " + text, x.meadow(), model.meadow());
    }

    private void callOne() {
        int kind = between(0, 99);
        if (kind < 45) {
            doOne();
        } else if (kind < 60) {
            lookAhead();
        } else if (kind < 75) {
            lookForSigns();
        } else if (kind < 90) {
            lookAtSome();
        } else {
            imagesAndTexts();
        }
    }

    private int aName() {
        return between(chance(5) ? -2 : 0, Math.max(0, model.names() - 1) + (chance(5) ? 2 : 0));
    }

    private int anAct() {
        return between(chance(5) ? -2 : 0, Math.max(0, model.actsTold() - 1) + (chance(5) ? 2 : 0));
    }

    private void doOne() {
        int p = aName();
        int a = anAct();
        int z = chance(5) ? between(-1, 0) * 10001 + 10000 : between(0, 9999);
        switch (between(0, 9)) {
            case 0, 1, 2 -> due("sends(" + p + ")", x.sends(p), model.sends(p));
            case 3 -> due("calls(" + p + ")", x.calls(p), model.calls(p));
            case 4, 5, 6 -> due("acts(" + a + ")", x.acts(a), model.acts(a));
            case 7 -> due("month(" + z + ")", x.month(z), model.month(z));
            default -> due("undo()", x.undo(), model.undo());
        }
    }

    private void lookAhead() {
        int n = between(0, 6);
        int p = between(-2, 6);
        int t = between(-1, 31);
        int what = between(-1, 2);
        int k = between(-1, 4);
        int j = between(0, 3);
        switch (between(0, 3)) {
            case 0 -> {
                if (model.planCost(n) <= 3000) {
                    due("plan(" + n + ", " + p + ")", x.plan(n, p), model.plan(n, p));
                }
            }
            case 1 -> due("law(" + t + ")", x.law(t), model.law(t));
            case 2 -> due("mean(" + what + ")", x.mean(what), model.mean(what));
            default -> {
                if (n * j <= 4 || chance(2)) {
                    due("home(" + k + ", " + n + ", " + j + ", " + what + ")", x.home(k, n, j, what),
                        model.home(k, n, j, what));
                }
            }
        }
    }

    private void lookForSigns() {
        int marks = chance(60) ? between(0, 7) : between(-1, 32);
        int i = between(-2, 6);
        int set = between(0, (1 << model.names()) + 1);
        int n = chance(80) ? between(0, 2) : between(-1, 5);
        int what = between(-1, 3);
        switch (between(0, 11)) {
            case 0, 1 -> due("saw(" + marks + ")", x.saw(marks), model.saw(marks));
            case 2, 3, 4 -> due("stray(" + i + ")", x.stray(i), model.stray(i));
            case 5, 6 -> due("found(" + set + ", " + n + ")", x.found(set, n), model.found(set, n));
            case 7, 8, 9 -> due("can(" + what + ")", x.can(what), model.can(what));
            case 10 -> due("ask()", x.ask(), model.ask());
            default -> {
                if (chance(40)) {
                    due("forget()", x.forget(), model.forget());
                }
            }
        }
    }

    private void lookAtSome() {
        int p = aName();
        int a = anAct();
        int what = between(-1, 8);
        switch (between(0, 5)) {
            case 0 -> due("name(" + p + ", " + what + ")", x.name(p, what), model.name(p, what));
            case 1 -> due("act(" + a + ", " + what + ")", x.act(a, what), model.act(a, what));
            case 2 -> due("now(" + what + ")", x.now(what), model.now(what));
            case 3 -> due("count(" + what + ")", x.count(what), model.count(what));
            case 4 -> due("rate(" + what + ", " + p + ")", x.rate(what, p), model.rate(what, p));
            default -> due("trace()", x.trace(), model.trace());
        }
    }

    private void imagesAndTexts() {
        int image = between(-1, 2);
        switch (between(0, 9)) {
            case 0, 1, 2, 3 -> due("keep(" + image + ")", x.keep(image), model.keep(image));
            case 4, 5, 6 -> due("back(" + image + ")", x.back(image), model.back(image));
            case 7 -> due("clear()", x.clear(), model.clear());
            case 8 -> due("type(32)", x.type(32), model.type(32));
            default -> {
                if (chance(30)) {
                    read(chance(50) ? goodText() : spoilt(goodText()));
                }
            }
        }
    }

    private void lookAtAll() {
        for (int p = 0; p < 6; p++) {
            for (int what = 0; what < 5; what++) {
                due("name(" + p + ", " + what + ")", x.name(p, what), model.name(p, what));
            }
        }
        for (int a = 0; a < 10; a++) {
            for (int what = 0; what < 5; what++) {
                due("act(" + a + ", " + what + ")", x.act(a, what), model.act(a, what));
            }
        }
        for (int what = 0; what < 8; what++) {
            due("now(" + what + ")", x.now(what), model.now(what));
            due("count(" + what + ")", x.count(what), model.count(what));
        }
        due("trace()", x.trace(), model.trace());
    }
}
