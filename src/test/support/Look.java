import java.util.ArrayList;
import java.util.List;

/** Every answer that an object gives, as "call = answer"; objects that answer alike can't be told apart. */
final class Look {
    private final GrazedNames x;
    private final List<String> answers = new ArrayList<>();

    private Look(GrazedNames x) {
        this.x = x;
    }

    /**
     * What it answers to calls that change nothing, then what is hidden behind those that do: what may be undone, the
     * images, the text's letters. Some 310 calls, so that the object may have had some 200 ahead.
     */
    static List<String> at(GrazedNames x) {
        Look look = new Look(x);
        look.told();
        look.ahead();
        look.signs();
        look.undone();
        look.images();
        look.text();
        return look.answers;
    }

    private void note(String call, long answer) {
        answers.add(call + " = " + answer);
    }

    private void told() {
        for (int what = 0; what <= 7; what++) {
            note("count(" + what + ")", x.count(what));
        }
        for (int what = 0; what <= 6; what++) {
            note("now(" + what + ")", x.now(what));
        }
        for (int what = 0; what <= 4; what++) {
            for (int p = 0; p < x.count(0); p++) {
                note("name(" + p + ", " + what + ")", x.name(p, what));
            }
            for (int a = 0; a < x.count(1); a++) {
                note("act(" + a + ", " + what + ")", x.act(a, what));
            }
        }
        note("trace()", x.trace());
    }

    private void ahead() {
        for (int n = 1; n <= 5; n += 2) {
            for (int p = -1; p < x.count(0); p++) {
                note("plan(" + n + ", " + p + ")", x.plan(n, p));
            }
        }
        for (int t = 0; t <= 30; t += 3) {
            note("law(" + t + ")", x.law(t));
        }
        for (int what = 0; what <= 1; what++) {
            note("mean(" + what + ")", x.mean(what));
            note("home(1, 2, 2, " + what + ")", x.home(1, 2, 2, what));
        }
    }

    private void signs() {
        for (int i = -1; i < x.count(5); i++) {
            note("stray(" + i + ")", x.stray(i));
        }
        for (int what = 0; what <= 2; what++) {
            note("can(" + what + ")", x.can(what));
        }
        note("ask()", x.ask());
    }

    private void now(String when) {
        for (int what = 0; what <= 4; what++) {
            note(when + ", now(" + what + ")", x.now(what));
        }
        for (int p = 0; p < x.count(0); p++) {
            note(when + ", name(" + p + ", 1)", x.name(p, 1));
        }
    }

    private void undone() {
        for (int i = 1; i <= 11; i++) {
            long left = x.undo();
            note("undo() " + i, left);
            if (left >= 0) {
                now("undo() " + i);
            }
        }
    }

    private void images() {
        for (int image = 0; image <= 1; image++) {
            long month = x.back(image);
            note("back(" + image + ")", month);
            if (month >= 0) {
                now("back(" + image + ")");
            }
        }
    }

    private void text() {
        note("meadow()", x.meadow());
        note("count(0) then", x.count(0));
        note("count(2) then", x.count(2));
        now("meadow()");
        note("clear()", x.clear());
    }
}
