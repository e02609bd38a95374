import java.math.BigInteger;
import java.util.ArrayDeque;
import java.util.ArrayList;
import java.util.Arrays;
import java.util.Deque;
import java.util.HashSet;
import java.util.List;
import java.util.Set;
import java.util.TreeSet;
import java.util.regex.Matcher;
import java.util.regex.Pattern;

/** The document once more, by counting out every case, as slow and as plain as can be. */
final class Model {
    static final int BAD = -1, STATE = -2, FULL = -3, NONE = -9, NO = -1000000;
    private static final Pattern TOKEN = Pattern.compile("[0-9]+|[^ ]", Pattern.DOTALL);

    private record Name(int strength, int tired, int marks) { }

    private record Act(int month, int name, int tiring, int harm) { }

    /** NOW; never changed, so that keeping it is enough. */
    private record State(int month, List<Integer> tired, Set<Integer> grazing, Set<Integer> lost, Set<Integer> met,
                         int harm) { }

    private record Found(int set, int n) { }

    private final StringBuilder text = new StringBuilder();
    private List<Name> names = new ArrayList<>();
    private List<Act> acts = new ArrayList<>();
    private int room = 2, rest = 5, wolves = 1;
    private State now = new State(0, List.of(), Set.of(), Set.of(), Set.of(), 0);
    private final Deque<State> before = new ArrayDeque<>();
    private final State[] images = new State[2];
    private final List<Integer> seen = new ArrayList<>();
    private final List<Found> found = new ArrayList<>();
    private long trace;

    private static final class Fault extends Exception {
        private static final long serialVersionUID = 1;
        final int place;

        Fault(int place) {
            super("fault", null, false, false);
            this.place = place;
        }
    }

    private boolean isName(int p) {
        return 0 <= p && p < names.size();
    }

    private boolean isAct(int a) {
        return 0 <= a && a < acts.size();
    }

    private static int bits(Set<Integer> set) {
        int bits = 0;
        for (int i : set) {
            bits |= 1 << i;
        }
        return bits;
    }

    int type(int letter) {
        if (letter < 0 || letter > 255) {
            return BAD;
        }
        if (text.length() == 180) {
            return FULL;
        }
        text.append((char) letter);
        return text.length();
    }

    int clear() {
        int had = text.length();
        text.setLength(0);
        return had;
    }

    int meadow() {
        List<String> tokens = new ArrayList<>();
        List<Integer> places = new ArrayList<>();
        Matcher m = TOKEN.matcher(text);
        while (m.find()) {
            tokens.add(m.group());
            places.add(m.start());
        }
        places.add(text.length());
        List<Name> newNames = new ArrayList<>();
        List<Act> newActs = new ArrayList<>();
        int[] settings = {-1, -1, -1};
        int at = 0;
        int items = 0;
        try {
            while (at < tokens.size()) {
                int kind = "namrw".indexOf(tokens.get(at));
                boolean full = kind == 0 && newNames.size() == 6 || kind == 1 && newActs.size() == 10
                    || kind > 1 && settings[kind - 2] >= 0;
                if (kind < 0 || full) {
                    throw new Fault(places.get(at));
                }
                int length = kind == 0 ? 3 : kind == 1 ? 4 : 1;
                int[] n = new int[length];
                for (int i = 0; i < length; i++) {
                    int j = at + 1 + i;
                    String token = j < tokens.size() ? tokens.get(j) : "";
                    if (!token.matches("0|[1-9][0-9]?")) {
                        throw new Fault(places.get(Math.min(j, tokens.size())));
                    }
                    n[i] = Integer.parseInt(token);
                    int[][] most = {{30, n[0], 31}, {11, newNames.size() - 1, 9, 9}, {4}, {9}, {10}};
                    int[][] least = {{1, 0, 0}, {0, 0, 1, 1}, {1}, {1}, {0}};
                    if (n[i] < least[kind][i] || n[i] > most[kind][i]) {
                        throw new Fault(places.get(j));
                    }
                }
                int end = at + 1 + length;
                if (end >= tokens.size() || !tokens.get(end).equals(";")) {
                    throw new Fault(places.get(Math.min(end, tokens.size())));
                }
                if (kind == 0) {
                    newNames.add(new Name(n[0], n[1], n[2]));
                } else if (kind == 1) {
                    newActs.add(new Act(n[0], n[1], n[2], n[3]));
                } else {
                    settings[kind - 2] = n[0];
                }
                at = end + 1;
                items++;
            }
        } catch (Fault fault) {
            return -10 - fault.place;
        }
        names = newNames;
        acts = newActs;
        room = settings[0] < 0 ? 2 : settings[0];
        rest = settings[1] < 0 ? 5 : settings[1];
        wolves = settings[2] < 0 ? 1 : settings[2];
        now = new State(0, names.stream().map(Name::tired).toList(), Set.of(), Set.of(), Set.of(), 0);
        before.clear();
        Arrays.fill(images, null);
        seen.clear();
        found.clear();
        text.setLength(0);
        return items;
    }

    int name(int p, int what) {
        if (!isName(p) || what < 0 || what > 4) {
            return BAD;
        }
        return new int[] {names.get(p).strength, now.tired.get(p), names.get(p).marks, now.grazing.contains(p) ? 1 : 0,
            now.lost.contains(p) ? 1 : 0}[what];
    }

    int act(int a, int what) {
        if (!isAct(a) || what < 0 || what > 4) {
            return BAD;
        }
        Act act = acts.get(a);
        return new int[] {act.month, act.name, act.tiring, act.harm, now.met.contains(a) ? 1 : 0}[what];
    }

    int now(int what) {
        if (what < 0 || what > 6) {
            return BAD;
        }
        int best = 0;
        for (int t = 1; t <= 30; t++) {
            best = law(t) < law(best) ? t : best;
        }
        return new int[] {now.month, bits(now.grazing), bits(now.lost), bits(now.met), now.harm, best,
            before.size()}[what];
    }

    private void become(State next) {
        before.addLast(now);
        if (before.size() > 10) {
            before.removeFirst();
        }
        now = next;
    }

    private static Set<Integer> with(Set<Integer> set, int more) {
        Set<Integer> next = new HashSet<>(set);
        next.add(more);
        return next;
    }

    private static Set<Integer> without(Set<Integer> set, int less) {
        Set<Integer> next = new HashSet<>(set);
        next.remove(less);
        return next;
    }

    int sends(int p) {
        if (!isName(p)) {
            return BAD;
        }
        if (now.grazing.contains(p) || now.lost.contains(p) || now.grazing.size() >= room) {
            return STATE;
        }
        become(new State(now.month, now.tired, with(now.grazing, p), now.lost, now.met, now.harm));
        return now.grazing.size();
    }

    int calls(int p) {
        if (!isName(p)) {
            return BAD;
        }
        if (!now.grazing.contains(p)) {
            return STATE;
        }
        become(new State(now.month, now.tired, without(now.grazing, p), now.lost, now.met, now.harm));
        return now.grazing.size();
    }

    int acts(int a) {
        if (!isAct(a)) {
            return BAD;
        }
        Act act = acts.get(a);
        int p = act.name;
        if (act.month != now.month || now.met.contains(a) || now.lost.contains(p) || now.grazing.contains(p)
            || now.tired.get(p) + act.tiring > names.get(p).strength) {
            return STATE;
        }
        List<Integer> tired = new ArrayList<>(now.tired);
        tired.set(p, tired.get(p) + act.tiring);
        become(new State(now.month, tired, now.grazing, now.lost, with(now.met, a), now.harm));
        return tired.get(p);
    }

    int month(int z) {
        if (z < 0 || z > 9999) {
            return BAD;
        }
        if (now.month == 12) {
            return STATE;
        }
        int harm = now.harm;
        for (int a = 0; a < acts.size(); a++) {
            harm += acts.get(a).month == now.month && !now.met.contains(a) ? acts.get(a).harm : 0;
        }
        List<Integer> tired = new ArrayList<>(now.tired);
        Set<Integer> grazing = now.grazing;
        Set<Integer> lost = now.lost;
        for (int p : new TreeSet<>(now.grazing)) {
            tired.set(p, Math.max(0, tired.get(p) - rest));
            BigInteger q = BigInteger.valueOf(7919L * z + 6151L * p + 12289L * now.month + 1);
            int draw = q.multiply(q).mod(BigInteger.valueOf(65521)).intValue() / 8 % 10;
            if (draw < wolves) {
                lost = with(lost, p);
                grazing = without(grazing, p);
            }
        }
        int newly = lost.size() - now.lost.size();
        become(new State(now.month + 1, tired, grazing, lost, now.met, harm));
        return newly;
    }

    int undo() {
        if (before.isEmpty()) {
            return STATE;
        }
        now = before.removeLast();
        return before.size();
    }

    /** A month to come with those grazing: its harm; tired is changed. */
    private int monthToCome(int month, int grazing, int[] tired) {
        int harm = 0;
        for (int a = 0; a < acts.size(); a++) {
            Act act = acts.get(a);
            int p = act.name;
            if (act.month != month || now.met.contains(a)) {
                continue;
            }
            boolean away = (grazing >> p & 1) == 1 || now.lost.contains(p);
            if (!away && tired[p] + act.tiring <= names.get(p).strength) {
                tired[p] += act.tiring;
            } else {
                harm += act.harm;
            }
        }
        for (int p = 0; p < tired.length; p++) {
            if ((grazing >> p & 1) == 1) {
                tired[p] = Math.max(0, tired[p] - rest);
            }
        }
        return harm;
    }

    private int[] tiredNow() {
        return now.tired.stream().mapToInt(i -> i).toArray();
    }

    private int[] bestBits;
    private int leastHarm;

    /** How many ways a plan has to look at; the tests leave out what would take too long. */
    double planCost(int n) {
        int sets = 0;
        for (int set = 0; set < 1 << names.size(); set++) {
            sets += mayGraze(set) ? 1 : 0;
        }
        return Math.pow(sets, n);
    }

    private boolean mayGraze(int set) {
        return Integer.bitCount(set) <= room && (set & bits(now.lost)) == 0;
    }

    private void tryAll(int m, int n, int[] tired, int harm, int[] bits) {
        if (m == n) {
            if (harm < leastHarm || harm == leastHarm && Arrays.compare(bits, bestBits) < 0) {
                leastHarm = harm;
                bestBits = bits.clone();
            }
            return;
        }
        for (int set = 0; set < 1 << names.size(); set++) {
            if (mayGraze(set)) {
                int[] nextTired = tired.clone();
                int[] nextBits = bits.clone();
                for (int p = 0; p < names.size(); p++) {
                    nextBits[p] |= (set >> p & 1) << m;
                }
                int more = monthToCome(now.month + m, set, nextTired);
                tryAll(m + 1, n, nextTired, harm + more, nextBits);
            }
        }
    }

    int plan(int n, int p) {
        if (n < 1 || n > 5 || p < -1 || p >= names.size()) {
            return BAD;
        }
        if (now.month + n > 12) {
            return STATE;
        }
        leastHarm = Integer.MAX_VALUE;
        tryAll(0, n, tiredNow(), 0, new int[names.size()]);
        return p == -1 ? leastHarm : bestBits[p];
    }

    /** What plan() of a name would answer for the n of the latest plan. */
    int latestPlan(int p) {
        return bestBits[p];
    }

    int law(int t) {
        if (t < 0 || t > 30) {
            return BAD;
        }
        int[] tired = tiredNow();
        int harm = 0;
        for (int month = now.month; month < 12; month++) {
            List<Integer> order = new ArrayList<>();
            for (int p = 0; p < tired.length; p++) {
                if (!now.lost.contains(p) && tired[p] >= t) {
                    order.add(p);
                }
            }
            order.sort((x, y) -> tired[x] != tired[y] ? tired[y] - tired[x] : x - y);
            harm += monthToCome(month, bits(new HashSet<>(order.subList(0, Math.min(room, order.size())))), tired);
        }
        return harm;
    }

    private static int part(long upper, long lower, int what) {
        long common = BigInteger.valueOf(upper).gcd(BigInteger.valueOf(lower)).longValueExact();
        return (int) ((what == 0 ? upper : lower) / common);
    }

    int mean(int what) {
        if (what < 0 || what > 1) {
            return BAD;
        }
        int sum = 0;
        for (int p : now.grazing) {
            for (Act act : acts) {
                sum += act.name == p && act.month > now.month ? wolves * act.harm : 0;
            }
        }
        return part(sum, 10, what);
    }

    /** Every draw of 0 .. 9 for each name in each month is a case of its own. */
    int home(int k, int n, int j, int what) {
        if (k < 0 || k > 3 || n < 0 || n > 3 || j < 0 || j > 2 || what < 0 || what > 1) {
            return BAD;
        }
        int all = 1;
        for (int i = 0; i < n * j; i++) {
            all *= 10;
        }
        int good = 0;
        for (int draws = 0; draws < all; draws++) {
            int left = draws;
            int home = 0;
            for (int p = 0; p < n; p++) {
                boolean lost = false;
                for (int m = 0; m < j; m++) {
                    lost |= left % 10 < wolves;
                    left /= 10;
                }
                home += lost ? 0 : 1;
            }
            good += home >= k ? 1 : 0;
        }
        return part(good, all, what);
    }

    int saw(int marks) {
        if (marks < 0 || marks > 31) {
            return BAD;
        }
        if (seen.size() == 6) {
            return FULL;
        }
        seen.add(marks);
        return seen.size();
    }

    int stray(int i) {
        if (i < -1 || i >= seen.size()) {
            return BAD;
        }
        List<List<Integer>> ways = new ArrayList<>();
        ways.add(List.of());
        for (int marks : seen) {
            List<List<Integer>> longer = new ArrayList<>();
            for (List<Integer> way : ways) {
                for (int p = 0; p < names.size(); p++) {
                    boolean like = Integer.bitCount(names.get(p).marks ^ marks) < 2;
                    if (like && !now.lost.contains(p) && !way.contains(p)) {
                        List<Integer> more = new ArrayList<>(way);
                        more.add(p);
                        longer.add(more);
                    }
                }
            }
            ways = longer;
        }
        if (i == -1) {
            return ways.size();
        }
        Set<Integer> those = new HashSet<>();
        for (List<Integer> way : ways) {
            those.add(way.get(i));
        }
        return those.size() == 1 ? those.iterator().next() : NONE;
    }

    int found(int set, int n) {
        if (set < 1 || set >= 1 << names.size() || n < 0 || n > 4) {
            return BAD;
        }
        if (found.size() == 6) {
            return FULL;
        }
        found.add(new Found(set, n));
        return found.size();
    }

    private List<Integer> sets() {
        List<Integer> sets = new ArrayList<>();
        for (int set = 0; set < 1 << names.size(); set++) {
            int s = set;
            if (Integer.bitCount(set) <= room && found.stream().allMatch(f -> Integer.bitCount(f.set & s) == f.n)) {
                sets.add(set);
            }
        }
        return sets;
    }

    int can(int what) {
        if (what < 0 || what > 2) {
            return BAD;
        }
        List<Integer> sets = sets();
        int inAll = sets.isEmpty() ? NONE : sets.stream().reduce(-1, (x, y) -> x & y);
        return new int[] {sets.size(), inAll, sets.stream().reduce(0, (x, y) -> x | y)}[what];
    }

    int ask() {
        List<Integer> sets = sets();
        if (sets.size() < 2) {
            return NONE;
        }
        int best = NONE;
        long least = Long.MAX_VALUE;
        for (int p = 0; p < names.size(); p++) {
            int name = p;
            long with = sets.stream().filter(s -> (s >> name & 1) == 1).count();
            long greater = Math.max(with, sets.size() - with);
            if (greater < least) {
                least = greater;
                best = p;
            }
        }
        return best;
    }

    int forget() {
        int both = seen.size() + found.size();
        seen.clear();
        found.clear();
        return both;
    }

    int rate(int kind, int p) {
        if (kind < 0 || kind > 5 || !isName(p)) {
            return NO;
        }
        Name name = names.get(p);
        int tired = now.tired.get(p);
        int marks = Integer.bitCount(name.marks);
        trace += new int[] {1, 11, 101, 1011, 10101, 100001}[kind];
        return new int[] {name.strength, name.strength + tired, name.strength - marks, 2 * (name.strength + tired),
            name.strength - marks + p, name.strength + now.harm}[kind];
    }

    int keep(int image) {
        if (image < 0 || image > 1) {
            return BAD;
        }
        images[image] = now;
        return now.month;
    }

    int back(int image) {
        if (image < 0 || image > 1) {
            return BAD;
        }
        if (images[image] == null) {
            return STATE;
        }
        now = images[image];
        before.clear();
        return now.month;
    }

    int count(int what) {
        if (what < 0 || what > 7) {
            return BAD;
        }
        return new int[] {names.size(), acts.size(), room, rest, wolves, seen.size(), found.size(),
            text.length()}[what];
    }

    long trace() {
        return trace;
    }

    int names() {
        return names.size();
    }

    int actsTold() {
        return acts.size();
    }
}
