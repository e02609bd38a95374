/** Names that tire with use and are put out to graze by turns; the document's promises are its face. */
public final class GrazedNames {
    public static final int BAD = -1, STATE = -2, FULL = -3, NONE = -9;
    public static final int NO = -1000000;

    private static final int MOST_LETTERS = 180;
    private static final int MOST_NAMES = 6;
    private static final int MOST_ACTS = 10;
    private static final int MOST_UNDONE = 10;
    private static final int MOST_SEEN = 6;
    private static final int MOST_FOUND = 6;
    private static final int MOST_PLANNED = 5;
    private static final int IMAGES = 2;
    private static final int YEAR = 12;
    private static final int MOST_STRENGTH = 30;
    private static final int ALL_MARKS = 31;
    private static final int MOST_GRAZED = 4;
    private static final int MOST_DRAWN = 9999;
    private static final int PARTS = 10;

    private final Text text = new Text();
    private Told told = new Told();
    private final Now now = new Now();
    private final History history = new History();
    private final Now[] images = new Now[IMAGES];
    private int imagesKept;
    private final Law law = new Law();
    private final Plan plan = new Plan();
    private final Strays strays = new Strays();
    private final Grass grass = new Grass();
    private final Kinds kinds = new Kinds();

    public GrazedNames() {
        for (int i = 0; i < images.length; i++) {
            images[i] = new Now();
        }
    }

    // ---- the meadow

    public int type(int letter) {
        if (letter < 0 || letter > 255) {
            return BAD;
        }
        return text.add((char) letter);
    }

    public int clear() {
        int had = text.length;
        text.length = 0;
        return had;
    }

    public int meadow() {
        int items = text.read();
        if (items < 0) {
            return items;
        }
        // The two change places, so that a text with a fault spoils nothing and no object is made.
        Told old = told;
        told = text.into;
        text.into = old;
        text.length = 0;
        now.begin(told);
        history.forgetAll();
        imagesKept = 0;
        strays.size = 0;
        grass.size = 0;
        return items;
    }

    public int name(int p, int what) {
        if (!isName(p)) {
            return BAD;
        }
        switch (what) {
            case 0:
                return told.strength[p];
            case 1:
                return now.tired[p];
            case 2:
                return told.marks[p];
            case 3:
                return now.grazing >> p & 1;
            case 4:
                return now.lost >> p & 1;
            default:
                return BAD;
        }
    }

    public int act(int a, int what) {
        if (!isAct(a)) {
            return BAD;
        }
        switch (what) {
            case 0:
                return told.actMonth[a];
            case 1:
                return told.actName[a];
            case 2:
                return told.tiring[a];
            case 3:
                return told.harm[a];
            case 4:
                return now.met >> a & 1;
            default:
                return BAD;
        }
    }

    public int now(int what) {
        switch (what) {
            case 0:
                return now.month;
            case 1:
                return now.grazing;
            case 2:
                return now.lost;
            case 3:
                return now.met;
            case 4:
                return now.harm;
            case 5:
                return law.best(told, now);
            case 6:
                return history.size;
            default:
                return BAD;
        }
    }

    // ---- what is done

    public int sends(int p) {
        if (!isName(p)) {
            return BAD;
        }
        if (now.grazes(p) || now.isLost(p) || Integer.bitCount(now.grazing) >= told.room) {
            return STATE;
        }
        history.remember(now);
        now.grazing |= 1 << p;
        return Integer.bitCount(now.grazing);
    }

    public int calls(int p) {
        if (!isName(p)) {
            return BAD;
        }
        if (!now.grazes(p)) {
            return STATE;
        }
        history.remember(now);
        now.grazing &= ~(1 << p);
        return Integer.bitCount(now.grazing);
    }

    public int acts(int a) {
        if (!isAct(a)) {
            return BAD;
        }
        int p = told.actName[a];
        if (!isName(p) || told.actMonth[a] != now.month || now.isMet(a)) {
            return STATE;
        }
        if (now.isLost(p) || now.grazes(p) || !now.bears(told, p, a)) {
            return STATE;
        }
        history.remember(now);
        now.met |= 1 << a;
        now.tired[p] += told.tiring[a];
        return now.tired[p];
    }

    public int month(int z) {
        if (z < 0 || z > MOST_DRAWN) {
            return BAD;
        }
        if (now.month >= YEAR) {
            return STATE;
        }
        history.remember(now);
        return now.goBy(told, z);
    }

    public int undo() {
        if (history.size == 0) {
            return STATE;
        }
        history.takeBack(now);
        return history.size;
    }

    // ---- who should graze

    public int plan(int n, int p) {
        if (n < 1 || n > MOST_PLANNED || p != -1 && !isName(p)) {
            return BAD;
        }
        if (now.month + n > YEAR) {
            return STATE;
        }
        plan.make(told, now, n);
        return p == -1 ? plan.leastHarm : plan.best[p];
    }

    public int law(int t) {
        if (t < 0 || t > MOST_STRENGTH) {
            return BAD;
        }
        return law.harm(told, now, t);
    }

    public int mean(int what) {
        if (what != 0 && what != 1) {
            return BAD;
        }
        int atStake = 0;
        for (int a = 0; a < told.acts; a++) {
            if (told.actMonth[a] > now.month && now.grazes(told.actName[a])) {
                atStake += told.harm[a];
            }
        }
        return partInLeastTerms(told.wolves * atStake, PARTS, what);
    }

    public int home(int k, int n, int j, int what) {
        if (k < 0 || k > 3 || n < 0 || n > 3 || j < 0 || j > 2 || what != 0 && what != 1) {
            return BAD;
        }
        int stays = power(PARTS - told.wolves, j);
        int all = power(PARTS, j);
        int upper = 0;
        int choices = 1;
        // choices is "n over i": it goes from each i to the next without a remainder.
        for (int i = 0; i <= n; i++) {
            if (i >= k) {
                upper += choices * power(stays, i) * power(all - stays, n - i);
            }
            choices = choices * (n - i) / (i + 1);
        }
        return partInLeastTerms(upper, power(all, n), what);
    }

    // ---- strays

    public int saw(int marks) {
        if (marks < 0 || marks > ALL_MARKS) {
            return BAD;
        }
        return strays.add(marks);
    }

    public int stray(int i) {
        if (i < -1 || i >= strays.size) {
            return BAD;
        }
        strays.weigh(told, now);
        return i == -1 ? strays.ways : strays.sure[i];
    }

    // ---- grass

    public int found(int set, int n) {
        if (set < 1 || set >= 1 << told.names || n < 0 || n > MOST_GRAZED) {
            return BAD;
        }
        return grass.add(set, n);
    }

    public int can(int what) {
        grass.weigh(told);
        switch (what) {
            case 0:
                return grass.sets;
            case 1:
                return grass.sets == 0 ? NONE : grass.inAll;
            case 2:
                return grass.inSome;
            default:
                return BAD;
        }
    }

    public int ask() {
        grass.weigh(told);
        return grass.nextToAsk(told);
    }

    public int forget() {
        int both = strays.size + grass.size;
        strays.size = 0;
        grass.size = 0;
        return both;
    }

    // ---- kinds, images

    public int rate(int kind, int p) {
        if (kind < 0 || kind > Kinds.THORN || !isName(p)) {
            return NO;
        }
        return kinds.worth(kind, p, told, now);
    }

    public int keep(int image) {
        if (image < 0 || image >= images.length) {
            return BAD;
        }
        images[image].become(now);
        imagesKept |= 1 << image;
        return now.month;
    }

    public int back(int image) {
        if (image < 0 || image >= images.length) {
            return BAD;
        }
        if ((imagesKept >> image & 1) == 0) {
            return STATE;
        }
        now.become(images[image]);
        history.forgetAll();
        return now.month;
    }

    public int count(int what) {
        switch (what) {
            case 0:
                return told.names;
            case 1:
                return told.acts;
            case 2:
                return told.room;
            case 3:
                return told.rest;
            case 4:
                return told.wolves;
            case 5:
                return strays.size;
            case 6:
                return grass.size;
            case 7:
                return text.length;
            default:
                return BAD;
        }
    }

    public long trace() {
        return kinds.asked;
    }

    private boolean isName(int p) {
        return p >= 0 && p < told.names;
    }

    private boolean isAct(int a) {
        return a >= 0 && a < told.acts;
    }

    /** The upper (what = 0) or lower number of a fraction whose lower number is above 0. */
    private static int partInLeastTerms(int upper, int lower, int what) {
        int common = commonDivisor(upper, lower);
        int part = what == 0 ? upper : lower;
        return common == 0 ? part : part / common;
    }

    private static int commonDivisor(int x, int y) {
        int greater = x;
        int rest = y;
        // Euclid's steps on numbers of 31 bits are fewer than 50.
        for (int step = 0; step < 50 && rest != 0; step++) {
            int next = greater % rest;
            greater = rest;
            rest = next;
        }
        return greater;
    }

    private static int power(int base, int times) {
        int product = 1;
        for (int i = 0; i < times; i++) {
            product *= base;
        }
        return product;
    }

    /** What a text tells; it stays until another text is read. */
    private static final class Told {
        int names;
        final int[] strength = new int[MOST_NAMES];
        final int[] firstTired = new int[MOST_NAMES];
        final int[] marks = new int[MOST_NAMES];
        int acts;
        final int[] actMonth = new int[MOST_ACTS];
        final int[] actName = new int[MOST_ACTS];
        final int[] tiring = new int[MOST_ACTS];
        final int[] harm = new int[MOST_ACTS];
        int room;
        int rest;
        int wolves;

        Told() {
            begin();
        }

        void begin() {
            names = 0;
            acts = 0;
            room = 2;
            rest = 5;
            wolves = 1;
        }
    }

    /** The text that is told letter by letter; it is read token by token, up to its first fault. */
    private static final class Text {
        // Tokens that are no single letter; a letter's token is its own number.
        private static final int END = -1, NUMBER = -2, WRONG = -3;
        private static final int NO_FAULT = -1;

        private final char[] letters = new char[MOST_LETTERS];
        int length;
        Told into = new Told();
        private int at;
        private int token;
        private int place;
        private int number;
        private int fault;
        private boolean roomTold;
        private boolean restTold;
        private boolean wolvesTold;

        int add(char letter) {
            if (length >= letters.length) {
                return FULL;
            }
            letters[length] = letter;
            length++;
            return length;
        }

        /** How many items were read into "into", or -10 less the fault's place. */
        int read() {
            into.begin();
            at = 0;
            fault = NO_FAULT;
            roomTold = false;
            restTold = false;
            wolvesTold = false;
            nextToken();
            int items = 0;
            while (items < MOST_LETTERS && token != END && fault == NO_FAULT) {
                readItem();
                items++;
            }
            return fault == NO_FAULT ? items : -10 - fault;
        }

        private void readItem() {
            int letter = token;
            if (!mayBegin(letter)) {
                fault = place;
                return;
            }
            nextToken();
            switch (letter) {
                case 'n':
                    readName();
                    break;
                case 'a':
                    readAct();
                    break;
                default:
                    readSetting(letter);
                    break;
            }
            if (fault == NO_FAULT && token != ';') {
                fault = place;
            }
            nextToken();
        }

        private boolean mayBegin(int letter) {
            switch (letter) {
                case 'n':
                    return into.names < MOST_NAMES;
                case 'a':
                    return into.acts < MOST_ACTS;
                case 'm':
                    return !roomTold;
                case 'r':
                    return !restTold;
                case 'w':
                    return !wolvesTold;
                default:
                    return false;
            }
        }

        private void readName() {
            int p = into.names;
            if (p >= MOST_NAMES) {
                return;
            }
            into.strength[p] = readNumber(1, MOST_STRENGTH);
            into.firstTired[p] = readNumber(0, into.strength[p]);
            into.marks[p] = readNumber(0, ALL_MARKS);
            into.names++;
        }

        private void readAct() {
            int a = into.acts;
            if (a >= MOST_ACTS) {
                return;
            }
            into.actMonth[a] = readNumber(0, YEAR - 1);
            into.actName[a] = readNumber(0, into.names - 1);
            into.tiring[a] = readNumber(1, 9);
            into.harm[a] = readNumber(1, 9);
            into.acts++;
        }

        private void readSetting(int letter) {
            if (letter == 'm') {
                into.room = readNumber(1, MOST_GRAZED);
                roomTold = true;
            } else if (letter == 'r') {
                into.rest = readNumber(1, 9);
                restTold = true;
            } else {
                into.wolves = readNumber(0, PARTS);
                wolvesTold = true;
            }
        }

        /** The number that stands here; behind a fault nothing is read any more, and it is the least. */
        private int readNumber(int least, int most) {
            if (fault != NO_FAULT) {
                return least;
            }
            if (token != NUMBER || number < least || number > most) {
                fault = place;
                return least;
            }
            int read = number;
            nextToken();
            return read;
        }

        private void nextToken() {
            while (at < length && letters[at] == ' ') {
                at++;
            }
            place = at;
            if (at >= length) {
                token = END;
                return;
            }
            char letter = letters[at];
            if (isDigit(letter)) {
                takeNumber();
                return;
            }
            at++;
            token = isLetterOfItems(letter) ? letter : WRONG;
        }

        private void takeNumber() {
            boolean zeroAhead = letters[at] == '0';
            number = 0;
            while (at < length && isDigit(letters[at])) {
                // Held at 100, so that a long row of digits can't wrap around to a small number.
                number = Math.min(100, number * 10 + (letters[at] - '0'));
                at++;
            }
            boolean wrong = number > 99 || zeroAhead && at - place > 1;
            token = wrong ? WRONG : NUMBER;
        }

        private static boolean isDigit(char letter) {
            return letter >= '0' && letter <= '9';
        }

        private static boolean isLetterOfItems(char letter) {
            return letter == 'n' || letter == 'a' || letter == 'm' || letter == 'r' || letter == 'w'
                || letter == ';';
        }
    }

    /** How things are: the month, who is how tired, grazes, is lost, what is met, all harm. */
    private static final class Now {
        int month;
        int grazing;
        int lost;
        int met;
        int harm;
        final int[] tired = new int[MOST_NAMES];

        void begin(Told told) {
            month = 0;
            grazing = 0;
            lost = 0;
            met = 0;
            harm = 0;
            System.arraycopy(told.firstTired, 0, tired, 0, MOST_NAMES);
        }

        void become(Now other) {
            month = other.month;
            grazing = other.grazing;
            lost = other.lost;
            met = other.met;
            harm = other.harm;
            System.arraycopy(other.tired, 0, tired, 0, MOST_NAMES);
        }

        boolean grazes(int p) {
            return (grazing >> p & 1) == 1;
        }

        boolean isLost(int p) {
            return (lost >> p & 1) == 1;
        }

        boolean isMet(int a) {
            return (met >> a & 1) == 1;
        }

        boolean bears(Told told, int p, int a) {
            return tired[p] + told.tiring[a] <= told.strength[p];
        }

        void rest(Told told, int p) {
            tired[p] = Math.max(0, tired[p] - told.rest);
        }

        /** The month goes by with wolves: how many are lost in it. */
        int goBy(Told told, int z) {
            for (int a = 0; a < told.acts; a++) {
                if (told.actMonth[a] == month && !isMet(a)) {
                    harm += told.harm[a];
                }
            }
            int newlyLost = 0;
            for (int p = 0; p < told.names; p++) {
                if (grazes(p)) {
                    rest(told, p);
                    if (draw(z, p) < told.wolves) {
                        grazing &= ~(1 << p);
                        lost |= 1 << p;
                        newlyLost++;
                    }
                }
            }
            month++;
            return newlyLost;
        }

        private int draw(int z, int p) {
            long q = 7919L * z + 6151L * p + 12289L * month + 1;
            return (int) (q * q % 65521 / 8 % 10);
        }

        /** A month to come of one name, without wolves: the harm of its acts; it is more or less tired then. */
        int live(Told told, int p, int inMonth, boolean grazesThen) {
            boolean away = grazesThen || isLost(p);
            int done = 0;
            for (int a = 0; a < told.acts; a++) {
                if (told.actName[a] == p && told.actMonth[a] == inMonth && !isMet(a)) {
                    if (!away && bears(told, p, a)) {
                        tired[p] += told.tiring[a];
                    } else {
                        done += told.harm[a];
                    }
                }
            }
            if (grazesThen) {
                rest(told, p);
            }
            return done;
        }
    }

    /** How things were ahead of the latest things done, in a ring: the oldest gives way. */
    private static final class History {
        private final Now[] ring = new Now[MOST_UNDONE];
        private int next;
        int size;

        History() {
            for (int i = 0; i < ring.length; i++) {
                ring[i] = new Now();
            }
        }

        void remember(Now now) {
            ring[next].become(now);
            next = (next + 1) % MOST_UNDONE;
            size = Math.min(size + 1, MOST_UNDONE);
        }

        void takeBack(Now now) {
            next = (next + MOST_UNDONE - 1) % MOST_UNDONE;
            now.become(ring[next]);
            size--;
        }

        void forgetAll() {
            size = 0;
        }
    }

    /** What a law of resting does from the month to the year's end. */
    private static final class Law {
        private final Now trial = new Now();

        int harm(Told told, Now now, int t) {
            trial.become(now);
            int sum = 0;
            for (int month = now.month; month < YEAR; month++) {
                int grazers = grazers(told, t);
                for (int p = 0; p < told.names; p++) {
                    sum += trial.live(told, p, month, (grazers >> p & 1) == 1);
                }
            }
            return sum;
        }

        int best(Told told, Now now) {
            int best = 0;
            int least = Integer.MAX_VALUE;
            for (int t = 0; t <= MOST_STRENGTH; t++) {
                int harm = harm(told, now, t);
                if (harm < least) {
                    least = harm;
                    best = t;
                }
            }
            return best;
        }

        private int grazers(Told told, int t) {
            int chosen = 0;
            for (int place = 0; place < told.room; place++) {
                int p = mostTired(told, t, chosen);
                if (p != NONE) {
                    chosen |= 1 << p;
                }
            }
            return chosen;
        }

        private int mostTired(Told told, int t, int chosen) {
            int most = t - 1;
            int found = NONE;
            for (int p = 0; p < told.names; p++) {
                if ((chosen >> p & 1) == 0 && !trial.isLost(p) && trial.tired[p] > most) {
                    most = trial.tired[p];
                    found = p;
                }
            }
            return found;
        }
    }

    /** Who should graze in which of the next months; a way of a name is its months as bits. */
    private static final class Plan {
        private static final int WAYS = 1 << MOST_PLANNED;
        // The meadow's months are held in one number, four bits each: the highest of them says "too full".
        private static final int EACH_MONTH = 0x11111, TOO_FULL = 0x88888, MOST_IN_FOUR_BITS = 7;
        // All harm is 90 at most (ten acts of 9), so seven bits hold it.
        private static final int HARM_BITS = 7, HARM_MASK = 127;
        private static final int REMEMBERED = 1021;

        private final Now trial = new Now();
        private final int[] leastWithin = new int[WAYS];
        private final int[][] ways = new int[MOST_NAMES][WAYS];
        private final int[][] harms = new int[MOST_NAMES][WAYS];
        private final int[] wayCount = new int[MOST_NAMES];
        private final int[] leastFrom = new int[MOST_NAMES + 1];
        private final int[] chosen = new int[MOST_NAMES];
        private final long[] reached = new long[REMEMBERED];
        private long made;
        private int names;
        int leastHarm;
        final int[] best = new int[MOST_NAMES];

        void make(Told told, Now now, int months) {
            names = told.names;
            trial.become(now);
            leastFrom[names] = 0;
            for (int p = names - 1; p >= 0; p--) {
                leastFrom[p] = leastFrom[p + 1] + weigh(told, now, p, months);
            }
            leastHarm = Integer.MAX_VALUE;
            made++;
            choose(0, (MOST_IN_FOUR_BITS - told.room) * EACH_MONTH, 0);
        }

        /**
         * Lists the ways of a name that can stand in the plan, and answers the least harm of them.
         * A way that does no less harm than one within it never can: that one takes less room and is ahead.
         */
        private int weigh(Told told, Now now, int p, int months) {
            int all = now.isLost(p) ? 1 : 1 << months;
            int count = 0;
            for (int way = 0; way < all; way++) {
                int within = leastOfSmaller(way);
                int harm = harmOf(told, now, p, way, months);
                leastWithin[way] = Math.min(within, harm);
                if (harm < within) {
                    ways[p][count] = way;
                    harms[p][count] = harm;
                    count++;
                }
            }
            wayCount[p] = count;
            return leastWithin[all - 1];
        }

        private int leastOfSmaller(int way) {
            int least = Integer.MAX_VALUE;
            for (int m = 0; m < MOST_PLANNED; m++) {
                if ((way >> m & 1) == 1) {
                    least = Math.min(least, leastWithin[way & ~(1 << m)]);
                }
            }
            return least;
        }

        private int harmOf(Told told, Now now, int p, int way, int months) {
            trial.tired[p] = now.tired[p];
            int sum = 0;
            for (int m = 0; m < months; m++) {
                sum += trial.live(told, p, now.month + m, (way >> m & 1) == 1);
            }
            return sum;
        }

        /** Tries the ways of name p and those behind it, the first ones ahead; only less harm takes their place. */
        private void choose(int p, int meadow, int harm) {
            if (p > names || harm + leastFrom[p] >= leastHarm) {
                return;
            }
            if (p == names) {
                leastHarm = harm;
                System.arraycopy(chosen, 0, best, 0, names);
                return;
            }
            if (wasReached(p, meadow, harm)) {
                return;
            }
            for (int i = 0; i < wayCount[p]; i++) {
                int fuller = meadow + inFourBits(ways[p][i]);
                if ((fuller & TOO_FULL) == 0) {
                    chosen[p] = ways[p][i];
                    choose(p + 1, fuller, harm + harms[p][i]);
                }
            }
        }

        /**
         * Whether this plan came to name p with the meadow as full and no more harm already: then nothing better
         * follows. Places of the row are shared and may forget; that costs time alone.
         */
        private boolean wasReached(int p, int meadow, int harm) {
            long key = (made << 3 | p) << 20 | meadow;
            int at = (int) Math.floorMod(key, (long) REMEMBERED);
            if (reached[at] >> HARM_BITS == key && (reached[at] & HARM_MASK) <= harm) {
                return true;
            }
            reached[at] = key << HARM_BITS | harm;
            return false;
        }

        private static int inFourBits(int way) {
            return way & 1 | (way & 2) << 3 | (way & 4) << 6 | (way & 8) << 9 | (way & 16) << 12;
        }
    }

    /** The strays seen, and which names they can be. */
    private static final class Strays {
        private static final int NOT_YET = -1;

        private final int[] seen = new int[MOST_SEEN];
        private final int[] taken = new int[MOST_SEEN];
        int size;
        int ways;
        final int[] sure = new int[MOST_SEEN];

        int add(int marks) {
            if (size >= seen.length) {
                return FULL;
            }
            seen[size] = marks;
            size++;
            return size;
        }

        void weigh(Told told, Now now) {
            ways = 0;
            for (int i = 0; i < size; i++) {
                sure[i] = NOT_YET;
            }
            assign(told, 0, now.lost);
            for (int i = 0; i < size; i++) {
                if (sure[i] == NOT_YET) {
                    sure[i] = NONE;
                }
            }
        }

        /** Tries each free name for stray i and those behind it; away are names lost or taken. */
        private void assign(Told told, int i, int away) {
            if (i >= size) {
                ways++;
                noteWay();
                return;
            }
            for (int p = 0; p < told.names; p++) {
                boolean free = (away >> p & 1) == 0;
                if (free && Integer.bitCount(told.marks[p] ^ seen[i]) <= 1) {
                    taken[i] = p;
                    assign(told, i + 1, away | 1 << p);
                }
            }
        }

        private void noteWay() {
            for (int i = 0; i < size; i++) {
                if (sure[i] == NOT_YET) {
                    sure[i] = taken[i];
                } else if (sure[i] != taken[i]) {
                    sure[i] = NONE;
                }
            }
        }
    }

    /** What the trodden grass told, and which sets of names it leaves. */
    private static final class Grass {
        private final int[] among = new int[MOST_FOUND];
        private final int[] grazed = new int[MOST_FOUND];
        private final int[] setsWith = new int[MOST_NAMES];
        int size;
        int sets;
        int inAll;
        int inSome;

        int add(int set, int n) {
            if (size >= among.length) {
                return FULL;
            }
            among[size] = set;
            grazed[size] = n;
            size++;
            return size;
        }

        void weigh(Told told) {
            sets = 0;
            inAll = (1 << told.names) - 1;
            inSome = 0;
            for (int p = 0; p < told.names; p++) {
                setsWith[p] = 0;
            }
            for (int set = 0; set < 1 << told.names; set++) {
                if (Integer.bitCount(set) <= told.room && agrees(set)) {
                    sets++;
                    inAll &= set;
                    inSome |= set;
                    countNamesOf(told, set);
                }
            }
        }

        /** As weighed: the name whose answer leaves the fewest sets at the worst. */
        int nextToAsk(Told told) {
            int name = NONE;
            int least = Integer.MAX_VALUE;
            for (int p = 0; p < told.names && sets > 1; p++) {
                int greater = Math.max(setsWith[p], sets - setsWith[p]);
                if (greater < least) {
                    least = greater;
                    name = p;
                }
            }
            return name;
        }

        private boolean agrees(int set) {
            for (int i = 0; i < size; i++) {
                if (Integer.bitCount(set & among[i]) != grazed[i]) {
                    return false;
                }
            }
            return true;
        }

        private void countNamesOf(Told told, int set) {
            for (int p = 0; p < told.names; p++) {
                setsWith[p] += set >> p & 1;
            }
        }
    }

    /** Rates names as if of a kind, and traces which kinds' bodies were asked. */
    private static final class Kinds {
        static final int NAME = 0, MARY = 1, COLT = 2, PONY = 3, MULE = 4, THORN = 5;

        private static final int[] ABOVE = {NAME, NAME, NAME, MARY, COLT, NAME};
        private static final int[] MARK = {1, 10, 100, 1000, 10000, 100000};

        long asked;

        int worth(int kind, int p, Told told, Now now) {
            return kind < NAME || kind >= MARK.length ? NO : askBody(kind, p, told, now);
        }

        /** What a kind does; the kind above bears a lower number, so the asking ends at NAME. */
        private int askBody(int kind, int p, Told told, Now now) {
            asked += MARK[kind];
            if (kind == NAME) {
                return told.strength[p];
            }
            int up = askBody(ABOVE[kind], p, told, now);
            switch (kind) {
                case MARY:
                    return up + now.tired[p];
                case COLT:
                    return up - Integer.bitCount(told.marks[p]);
                case PONY:
                    return 2 * up;
                case MULE:
                    return up + p;
                default:
                    return up + now.harm;
            }
        }
    }
}
