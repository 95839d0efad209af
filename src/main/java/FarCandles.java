/** How far the far lights are, told step by step from near ones: see README.md. */
public final class FarCandles {
    public static final int NONE = -1, UNKNOWN = -1000001, OUTSIDE = -1000002, NOT = -1000003, FULL = -1000004, QUARREL = -1000005, LOOSE = -1000006, LARGE = -1000007;

    private static final int LISTS = 6, SORTS = 6, HOMES = 10;
    private static final int MOST_TELLINGS = 80;
    private static final int LIGHT = 0, SHIFT = 1, ANCHOR = 2;
    private static final int LOWER = 0, UPPER = 1;
    private static final int FARTHEST = 40000;
    private static final int MOST_HIDDEN = 999;

    private final Tellings tellings = new Tellings();
    private final Dust dust = new Dust();
    private final Reader reader = new Reader();
    private final Net net = new Net();
    private final Strife strife = new Strife();
    private final Wide wide = new Wide();
    // Two rows of rules change places, so that a text with a fault leaves the ruling one as it was.
    private Rules rules = new Rules();
    private Rules spare = new Rules();
    private int hidden = 0;
    private boolean hiddenPut = false;
    private boolean hiddenOn = false;

    public FarCandles() {
    }

    // ---- tellings

    public int light(int list, int sort, int home, int m, int e, int x, int c) {
        if (!isList(list) || !isSort(sort) || !isHome(home)) {
            return UNKNOWN;
        }
        boolean bright = isFrom(m, -5000, 30000) && isFrom(e, 0, 999);
        if (!bright || !isFrom(x, 0, 3000) || !isFrom(c, -500, 3000)) {
            return OUTSIDE;
        }
        if (tellings.isFull()) {
            return FULL;
        }
        int i = tellings.add(LIGHT, list, sort, home, m, e);
        tellings.dress(i, x, c);
        return i;
    }

    public int shift(int list, int home, int u, int v) {
        if (!isList(list) || !isHome(home)) {
            return UNKNOWN;
        }
        if (!isSpan(u, v)) {
            return OUTSIDE;
        }
        return tellings.isFull() ? FULL : tellings.add(SHIFT, list, NONE, home, u, v);
    }

    public int anchor(int list, int sort, int u, int v) {
        if (!isList(list) || !isSort(sort)) {
            return UNKNOWN;
        }
        if (!isSpan(u, v)) {
            return OUTSIDE;
        }
        return tellings.isFull() ? FULL : tellings.add(ANCHOR, list, sort, NONE, u, v);
    }

    public int redden(int home, int p, int q) {
        if (!isHome(home)) {
            return UNKNOWN;
        }
        if (p < 0 || q < p || q > 2000) {
            return OUTSIDE;
        }
        dust.redFrom[home] = p;
        dust.redTo[home] = q;
        return 1;
    }

    public int redness(int home, int v) {
        if (!isHome(home)) {
            return UNKNOWN;
        }
        if (v != NONE && !isFrom(v, 0, 99999)) {
            return OUTSIDE;
        }
        int was = wide.rednessOf[home];
        wide.rednessOf[home] = v;
        return was;
    }

    public int leave(int i, boolean is) {
        if (!tellings.has(i)) {
            return UNKNOWN;
        }
        int was = asNumber(tellings.left[i]);
        tellings.left[i] = is;
        return was;
    }

    public int undo() {
        int i = tellings.takeBack();
        return i == NONE ? NOT : i;
    }

    public int redo() {
        int i = tellings.putBack();
        return i == NONE ? NOT : i;
    }

    public int told(int i, int what) {
        if (!tellings.has(i)) {
            return UNKNOWN;
        }
        switch (what) {
            case 0: return tellings.kind[i];
            case 1: return tellings.list[i];
            case 2: return tellings.sort[i];
            case 3: return tellings.home[i];
            case 4: return asNumber(tellings.isInNet(i));
            case 5: return lowOf(i);
            case 6: return highOf(i);
            default: return OUTSIDE;
        }
    }

    public int count(int what) {
        switch (what) {
            case 0: return tellings.size;
            case 1: return tellings.howMany(Tellings.IN_NET);
            case 2: return tellings.howMany(Tellings.LEFT);
            case 3: return tellings.howMany(Tellings.UNDONE);
            case 4: return howManyLoose();
            case 5: return rules.claims;
            case 6: return reader.length;
            case 7: return asNumber(hiddenOn);
            case 8: return tellings.howMany(Tellings.LIGHTS);
            default: return OUTSIDE;
        }
    }

    // ---- rules

    public int feed(int n, long bytes) {
        if (!isFrom(n, 1, 8)) {
            return OUTSIDE;
        }
        if (reader.length + n > Reader.MOST_BYTES) {
            return FULL;
        }
        for (int k = n - 1; k >= 0; k--) {
            reader.append((int) (bytes >>> (8 * k)) & 255);
        }
        return reader.length;
    }

    public int read() {
        int clauses = reader.readInto(spare);
        if (reader.faultNumber != 0) {
            return -10 - reader.faultNumber;
        }
        Rules old = rules;
        rules = spare;
        spare = old;
        return clauses;
    }

    public int fault() {
        return reader.faultAt;
    }

    public int rule(int what, int i) {
        if (isFrom(what, 0, 3) && !isSort(i) || what == 6 && !isList(i)) {
            return UNKNOWN;
        }
        switch (what) {
            case 0: return rules.timeLeast[i];
            case 1: return rules.timeGreatest[i];
            case 2: return rules.colourLeast[i];
            case 3: return rules.colourGreatest[i];
            case 4: return rules.dustLeast;
            case 5: return rules.dustGreatest;
            case 6: return rules.blur[i];
            case 7: return rules.own;
            default: return OUTSIDE;
        }
    }

    // ---- the net

    public int ends(int home, int k, int what) {
        if (!isHome(home)) {
            return UNKNOWN;
        }
        if (!isKnownBy(k) || !isEnd(what)) {
            return OUTSIDE;
        }
        load(k);
        if (net.quarrels()) {
            return QUARREL;
        }
        net.reach(Net.ORIGIN, what);
        if (!net.isReached(home)) {
            return LOOSE;
        }
        return net.bound(home, what) + (hiddenOn ? hidden : 0);
    }

    public int between(int g, int h, int what) {
        if (!isHome(g) || !isHome(h)) {
            return UNKNOWN;
        }
        if (!isEnd(what)) {
            return OUTSIDE;
        }
        if (quarrelsNow()) {
            return QUARREL;
        }
        net.reach(g, what);
        return net.isReached(h) ? net.bound(h, what) : LOOSE;
    }

    public int widening(int k) {
        if (!isKnownBy(k)) {
            return OUTSIDE;
        }
        load(k);
        return strife.leastWidening(net);
    }

    public int blame() {
        return quarrelsNow() ? strife.listsThatEndIt(net) : NOT;
    }

    public int odd(int i) {
        if (!quarrelsNow()) {
            return NOT;
        }
        strife.seekFewest(net);
        if (i == NONE) {
            return strife.fewest;
        }
        if (i == 0) {
            return strife.first;
        }
        return i == 1 ? strife.second : NONE;
    }

    public int worth(int list, int home) {
        if (!isList(list) || !isHome(home)) {
            return UNKNOWN;
        }
        if (quarrelsNow()) {
            return QUARREL;
        }
        net.findEnds();
        if (!net.tied[home]) {
            return LOOSE;
        }
        int apart = net.upper[home] - net.lower[home];
        net.leaveOut(list, NONE, NONE);
        net.findEnds();
        return net.tied[home] ? net.upper[home] - net.lower[home] - apart : LARGE;
    }

    public int lead(int home, int what, int i) {
        if (!isHome(home)) {
            return UNKNOWN;
        }
        if (!isEnd(what)) {
            return OUTSIDE;
        }
        if (quarrelsNow()) {
            return QUARREL;
        }
        net.reach(Net.ORIGIN, what);
        return net.isReached(home) ? leadOf(home, what, i) : LOOSE;
    }

    public int steps(int home) {
        return isHome(home) ? tellings.fewestLights(home) : UNKNOWN;
    }

    // ---- the wide

    public long far(int f, int what) {
        if (!isFarness(f) || !isEnd(what)) {
            return OUTSIDE;
        }
        return what == LOWER ? Wide.atLeast(f) : Wide.atMost(f);
    }

    public int boxes(int what) {
        if (!isFrom(what, 0, 3)) {
            return OUTSIDE;
        }
        if (quarrelsNow()) {
            return QUARREL;
        }
        net.findEnds();
        wide.hear(net, rules.own);
        return what == 3 ? wide.howManySpeak() : wide.keptBoxes(what);
    }

    public int box(int g) {
        if (!isFrom(g, 1, Wide.MOST_BOX)) {
            return OUTSIDE;
        }
        if (quarrelsNow()) {
            return QUARREL;
        }
        net.findEnds();
        wide.hear(net, rules.own);
        return wide.firstAgainst(g);
    }

    public long delay(int home, long u, long v) {
        if (!isHome(home)) {
            return UNKNOWN;
        }
        if (u < 1 || v < u || v > 2000000000L) {
            return OUTSIDE;
        }
        if (quarrelsNow()) {
            return QUARREL;
        }
        net.findEnds();
        if (!net.liesWithinFar(home)) {
            return NOT;
        }
        long least = Wide.atLeast(net.lower[home]);
        long most = Wide.atMost(net.upper[home]);
        return Math.max(0L, Math.max(least - v, u - most));
    }

    // ---- hidden, claims

    public int blind(int n) {
        if (!isFrom(n, -MOST_HIDDEN, MOST_HIDDEN)) {
            return OUTSIDE;
        }
        if (hiddenPut) {
            return NOT;
        }
        hidden = n;
        hiddenPut = true;
        hiddenOn = true;
        return 1;
    }

    public int open() {
        if (!hiddenOn) {
            return NOT;
        }
        hiddenOn = false;
        return hidden;
    }

    public int claim(int i, int what) {
        if (i < 0 || i >= rules.claims) {
            return UNKNOWN;
        }
        switch (what) {
            case 0: return standOfClaim(i);
            case 1: return rules.claimHome[i];
            case 2: return rules.claimMark[i];
            case 3: return asNumber(rules.claimAbove[i]);
            default: return OUTSIDE;
        }
    }

    // ---- what the calls share

    private static boolean isFrom(int number, int least, int greatest) {
        return number >= least && number <= greatest;
    }

    private static boolean isList(int list) {
        return isFrom(list, 0, LISTS - 1);
    }

    private static boolean isSort(int sort) {
        return isFrom(sort, 0, SORTS - 1);
    }

    private static boolean isHome(int home) {
        return isFrom(home, 0, HOMES - 1);
    }

    private static boolean isEnd(int what) {
        return what == LOWER || what == UPPER;
    }

    private static boolean isFarness(int f) {
        return isFrom(f, 0, FARTHEST);
    }

    private static boolean isSpan(int u, int v) {
        return u >= -FARTHEST && v >= u && v <= FARTHEST;
    }

    private boolean isKnownBy(int k) {
        return k == NONE || isFrom(k, 0, tellings.size);
    }

    private static int asNumber(boolean is) {
        return is ? 1 : 0;
    }

    private int lowOf(int i) {
        int low = tellings.first[i] - rules.blur[tellings.list[i]];
        if (tellings.kind[i] != LIGHT) {
            return low;
        }
        int even = rules.evenGreatest(tellings.sort[i], tellings.time[i], tellings.colour[i]);
        int miss = tellings.second[i];
        // To take off the CEILING of a number is to put on the FLOOR of its negative.
        return low - miss + Math.floorDiv(-even, 1000) - dust.greatestOf(tellings.home[i], rules);
    }

    private int highOf(int i) {
        // Of a light this is its miss, put on its brightness; of the others their high itself.
        int high = tellings.second[i] + rules.blur[tellings.list[i]];
        if (tellings.kind[i] != LIGHT) {
            return high;
        }
        int even = rules.evenLeast(tellings.sort[i], tellings.time[i], tellings.colour[i]);
        int bright = tellings.first[i];
        return bright + high - Math.floorDiv(even, 1000) - dust.leastOf(tellings.home[i], rules);
    }

    /** Puts into the net what is known by k and neither undone nor left out. */
    private void load(int k) {
        int known = k == NONE ? tellings.size : k;
        net.clear();
        for (int i = 0; i < known; i++) {
            if (tellings.isInNet(i)) {
                int from = tellings.kind[i] == SHIFT ? Net.ORIGIN : HOMES + tellings.sort[i];
                int to = tellings.kind[i] == ANCHOR ? Net.ORIGIN : tellings.home[i];
                net.tie(i, tellings.list[i], from, to);
                net.span(i, lowOf(i), highOf(i));
            }
        }
        net.leaveOut(NONE, NONE, NONE);
    }

    /** Puts all that holds now into the net and tells whether it can hold together. */
    private boolean quarrelsNow() {
        load(NONE);
        return net.quarrels();
    }

    private int howManyLoose() {
        if (quarrelsNow()) {
            return NONE;
        }
        net.reach(Net.ORIGIN, UPPER);
        int loose = 0;
        for (int home = 0; home < HOMES; home++) {
            loose += asNumber(!net.isReached(home));
        }
        return loose;
    }

    /** Counts the tellings that the end just reached rests on, or picks the i-th of them. */
    private int leadOf(int home, int what, int i) {
        int end = net.bound(home, what);
        net.markWay(home);
        int found = 0;
        for (int t = 0; t < tellings.size; t++) {
            if (net.onWay[t]) {
                net.leaveOut(NONE, t, NONE);
                net.reach(Net.ORIGIN, what);
                if (!net.isReached(home) || net.bound(home, what) != end) {
                    if (found == i) {
                        return t;
                    }
                    found++;
                }
            }
        }
        return i == NONE ? found : NONE;
    }

    private int standOfClaim(int i) {
        if (quarrelsNow()) {
            return QUARREL;
        }
        net.findEnds();
        int home = rules.claimHome[i];
        int mark = rules.claimMark[i];
        if (!net.tied[home]) {
            return 0;
        }
        boolean above = net.lower[home] > mark;
        boolean below = net.upper[home] < mark;
        boolean notAbove = net.upper[home] <= mark;
        boolean notBelow = net.lower[home] >= mark;
        if (rules.claimAbove[i] ? above : below) {
            return 1;
        }
        return (rules.claimAbove[i] ? notAbove : notBelow) ? 2 : 0;
    }

    /** All that was told, in the order in which it came. */
    private static final class Tellings {
        static final int IN_NET = 0, LEFT = 1, UNDONE = 2, LIGHTS = 3;

        final int[] kind = new int[MOST_TELLINGS];
        final int[] list = new int[MOST_TELLINGS];
        final int[] sort = new int[MOST_TELLINGS];
        final int[] home = new int[MOST_TELLINGS];
        // Brightness and miss of a light, the two ends of a shift or an anchor.
        final int[] first = new int[MOST_TELLINGS];
        final int[] second = new int[MOST_TELLINGS];
        final int[] time = new int[MOST_TELLINGS];
        final int[] colour = new int[MOST_TELLINGS];
        final boolean[] left = new boolean[MOST_TELLINGS];
        private final boolean[] undone = new boolean[MOST_TELLINGS];
        private final int[] canPutBack = new int[MOST_TELLINGS];
        private int howManyCan = 0;
        private final int[] sortsOfHome = new int[HOMES];
        int size = 0;

        boolean isFull() {
            return size >= MOST_TELLINGS;
        }

        boolean has(int i) {
            return i >= 0 && i < size;
        }

        boolean isInNet(int i) {
            return !undone[i] && !left[i];
        }

        int add(int itsKind, int itsList, int itsSort, int itsHome, int itsFirst, int itsSecond) {
            int i = size;
            if (i >= MOST_TELLINGS) {
                return FULL;
            }
            kind[i] = itsKind;
            list[i] = itsList;
            sort[i] = itsSort;
            home[i] = itsHome;
            first[i] = itsFirst;
            second[i] = itsSecond;
            size++;
            howManyCan = 0;
            return i;
        }

        void dress(int i, int itsTime, int itsColour) {
            if (has(i)) {
                time[i] = itsTime;
                colour[i] = itsColour;
            }
        }

        int takeBack() {
            for (int i = size - 1; i >= 0; i--) {
                if (!undone[i] && howManyCan < MOST_TELLINGS) {
                    undone[i] = true;
                    canPutBack[howManyCan] = i;
                    howManyCan++;
                    return i;
                }
            }
            return NONE;
        }

        int putBack() {
            if (howManyCan <= 0) {
                return NONE;
            }
            howManyCan--;
            int i = canPutBack[howManyCan];
            undone[i] = false;
            return i;
        }

        int howMany(int what) {
            int many = 0;
            for (int i = 0; i < size; i++) {
                many += asNumber(isOne(i, what));
            }
            return many;
        }

        private boolean isOne(int i, int what) {
            switch (what) {
                case IN_NET: return isInNet(i);
                case LEFT: return left[i];
                case UNDONE: return undone[i];
                default: return kind[i] == LIGHT;
            }
        }

        /** Two lights a step, outward from the homes that have a shift. */
        int fewestLights(int goal) {
            noteSortsOfHomes();
            int reached = homesWithShift();
            for (int lights = 0; lights <= 2 * HOMES; lights += 2) {
                if ((reached >> goal & 1) == 1) {
                    return lights;
                }
                reached = oneStepOn(reached);
            }
            return NONE;
        }

        private void noteSortsOfHomes() {
            for (int h = 0; h < HOMES; h++) {
                sortsOfHome[h] = 0;
            }
            for (int i = 0; i < size; i++) {
                if (kind[i] == LIGHT && isInNet(i)) {
                    sortsOfHome[home[i]] |= 1 << sort[i];
                }
            }
        }

        private int homesWithShift() {
            int homes = 0;
            for (int i = 0; i < size; i++) {
                if (kind[i] == SHIFT && isInNet(i)) {
                    homes |= 1 << home[i];
                }
            }
            return homes;
        }

        private int oneStepOn(int homes) {
            int sorts = 0;
            for (int h = 0; h < HOMES; h++) {
                sorts |= (homes >> h & 1) == 1 ? sortsOfHome[h] : 0;
            }
            int next = homes;
            for (int h = 0; h < HOMES; h++) {
                next |= (sortsOfHome[h] & sorts) != 0 ? 1 << h : 0;
            }
            return next;
        }
    }

    /** How much each home is reddened, and what dust that makes. */
    private static final class Dust {
        final int[] redFrom = new int[HOMES];
        final int[] redTo = new int[HOMES];

        // Nothing here is below 0: so a division that cuts is the FLOOR.
        int leastOf(int home, Rules rules) {
            return redFrom[home] * rules.dustLeast / 10;
        }

        int greatestOf(int home, Rules rules) {
            return (redTo[home] * rules.dustGreatest + 9) / 10;
        }
    }

    /** What a text of rules says; what it does not say is as at first. */
    private static final class Rules {
        static final int MOST_CLAIMS = 8;

        final int[] timeLeast = new int[SORTS];
        final int[] timeGreatest = new int[SORTS];
        final int[] colourLeast = new int[SORTS];
        final int[] colourGreatest = new int[SORTS];
        final int[] blur = new int[LISTS];
        int dustLeast = 31;
        int dustGreatest = 31;
        int own = 0;
        final int[] claimHome = new int[MOST_CLAIMS];
        final int[] claimMark = new int[MOST_CLAIMS];
        final boolean[] claimAbove = new boolean[MOST_CLAIMS];
        int claims = 0;

        void setAsAtFirst() {
            for (int s = 0; s < SORTS; s++) {
                timeLeast[s] = 0;
                timeGreatest[s] = 0;
                colourLeast[s] = 0;
                colourGreatest[s] = 0;
            }
            for (int l = 0; l < LISTS; l++) {
                blur[l] = 0;
            }
            dustLeast = 31;
            dustGreatest = 31;
            own = 0;
            claims = 0;
        }

        void setTime(int sort, int least, int greatest) {
            timeLeast[sort] = least;
            timeGreatest[sort] = greatest;
        }

        void setColour(int sort, int least, int greatest) {
            colourLeast[sort] = least;
            colourGreatest[sort] = greatest;
        }

        void addClaim(int home, boolean above, int mark) {
            if (claims < MOST_CLAIMS) {
                claimHome[claims] = home;
                claimAbove[claims] = above;
                claimMark[claims] = mark;
                claims++;
            }
        }

        // A colour may be below 0 (a time not): then the least law makes the greatest of it.
        int evenGreatest(int sort, int time, int colour) {
            int law = colour < 0 ? colourLeast[sort] : colourGreatest[sort];
            return timeGreatest[sort] * time + law * colour;
        }

        int evenLeast(int sort, int time, int colour) {
            int law = colour < 0 ? colourGreatest[sort] : colourLeast[sort];
            return timeLeast[sort] * time + law * colour;
        }
    }

    /** Keeps the text that is fed and reads it, up to its first fault. */
    private static final class Reader {
        static final int MOST_BYTES = 240;
        private static final int MOST_CLAUSES = 20, MOST_FIGURES = 5, MOST_NUMBERS = 5;
        private static final int CANNOT_STAND = 1, BAD_NUMBER = 2, TOO_MANY_CLAIMS = 3, TOO_MANY_CLAUSES = 4;
        private static final int MOST_LAW = 9999, MOST_DUST = 99, MOST_BLUR = 999, MOST_OWN = 9999;

        private final int[] text = new int[MOST_BYTES];
        int length = 0;
        int faultNumber = 0;
        int faultAt = NONE;
        private int at = 0;
        // The numbers of the clause that is read now.
        private final int[] numbers = new int[MOST_NUMBERS];
        private int howManyNumbers = 0;

        void append(int b) {
            if (length < MOST_BYTES) {
                text[length] = b;
                length++;
            }
        }

        /** Answers how many clauses there are; the text is empty afterwards. */
        int readInto(Rules draft) {
            draft.setAsAtFirst();
            faultNumber = 0;
            faultAt = NONE;
            at = 0;
            int clauses = 0;
            for (int n = 0; n < MOST_BYTES; n++) {
                skipBlanks();
                if (at >= length || !mayBegin(draft, clauses) || !readClause(draft)) {
                    break;
                }
                clauses++;
            }
            length = 0;
            return clauses;
        }

        private boolean mayBegin(Rules draft, int ahead) {
            boolean isClaim = isWord("claim");
            if (!isClaim && !isWord("sort") && !isWord("dust") && !isWord("blur") && !isWord("own")) {
                return fail(CANNOT_STAND, at);
            }
            if (isClaim && draft.claims >= Rules.MOST_CLAIMS) {
                return fail(TOO_MANY_CLAIMS, at);
            }
            return ahead < MOST_CLAUSES || fail(TOO_MANY_CLAUSES, at);
        }

        private boolean readClause(Rules draft) {
            howManyNumbers = 0;
            if (tookWord("sort")) {
                return readSort(draft);
            }
            if (tookWord("dust")) {
                return readDust(draft);
            }
            if (tookWord("blur")) {
                return readBlur(draft);
            }
            if (tookWord("own")) {
                return readOwn(draft);
            }
            return readWord("claim") && readClaim(draft);
        }

        private boolean readSort(Rules draft) {
            boolean good = readNumber(0, SORTS - 1)
                    && readWord("time") && readSigned(-MOST_LAW, MOST_LAW)
                    && readWord("to") && readSigned(latest(), MOST_LAW)
                    && readWord("colour") && readSigned(-MOST_LAW, MOST_LAW)
                    && readWord("to") && readSigned(latest(), MOST_LAW)
                    && readEnd();
            if (good) {
                draft.setTime(numbers[0], numbers[1], numbers[2]);
                draft.setColour(numbers[0], numbers[3], numbers[4]);
            }
            return good;
        }

        private boolean readDust(Rules draft) {
            boolean good = readNumber(0, MOST_DUST)
                    && readWord("to") && readNumber(latest(), MOST_DUST) && readEnd();
            if (good) {
                draft.dustLeast = numbers[0];
                draft.dustGreatest = numbers[1];
            }
            return good;
        }

        private boolean readBlur(Rules draft) {
            boolean good = readNumber(0, LISTS - 1) && readWord("by") && readNumber(0, MOST_BLUR) && readEnd();
            if (good) {
                draft.blur[numbers[0]] = numbers[1];
            }
            return good;
        }

        private boolean readOwn(Rules draft) {
            boolean good = readNumber(0, MOST_OWN) && readEnd();
            if (good) {
                draft.own = numbers[0];
            }
            return good;
        }

        private boolean readClaim(Rules draft) {
            if (!readNumber(0, HOMES - 1)) {
                return false;
            }
            skipBlanks();
            boolean above = tookWord("above");
            boolean good = (above || readWord("below")) && readSigned(-FARTHEST, FARTHEST) && readEnd();
            if (good) {
                draft.addClaim(numbers[0], above, numbers[1]);
            }
            return good;
        }

        private boolean readEnd() {
            skipBlanks();
            if (byteAt(at) != ';') {
                return fail(CANNOT_STAND, at);
            }
            at++;
            return true;
        }

        private boolean readWord(String word) {
            skipBlanks();
            if (!isWord(word)) {
                return fail(CANNOT_STAND, at);
            }
            at += word.length();
            return true;
        }

        private boolean tookWord(String word) {
            if (!isWord(word)) {
                return false;
            }
            at += word.length();
            return true;
        }

        /** Whether the word that begins here is this one and goes no further. */
        private boolean isWord(String word) {
            for (int k = 0; k < word.length(); k++) {
                if (byteAt(at + k) != word.charAt(k)) {
                    return false;
                }
            }
            return !isLetter(byteAt(at + word.length()));
        }

        private boolean readNumber(int least, int greatest) {
            skipBlanks();
            return readFigures(at, least, greatest);
        }

        private boolean readSigned(int least, int greatest) {
            skipBlanks();
            int start = at;
            if (byteAt(at) == '-') {
                at++;
            }
            return readFigures(start, least, greatest);
        }

        /** Reads the figures here; the number starts there or, with its sign, one byte ahead. */
        private boolean readFigures(int start, int least, int greatest) {
            if (!isFigure(byteAt(at))) {
                return fail(CANNOT_STAND, at);
            }
            int sign = start < at ? -1 : 1;
            int figures = 0;
            int number = 0;
            for (; at < length && isFigure(text[at]); at++) {
                figures++;
                // More figures are refused below: they need not be kept.
                if (figures <= MOST_FIGURES) {
                    number = 10 * number + text[at] - '0';
                }
            }
            if (figures > MOST_FIGURES || !isFrom(sign * number, least, greatest)) {
                return fail(BAD_NUMBER, start);
            }
            keep(sign * number);
            return true;
        }

        private void keep(int number) {
            if (howManyNumbers < MOST_NUMBERS) {
                numbers[howManyNumbers] = number;
                howManyNumbers++;
            }
        }

        private int latest() {
            return howManyNumbers > 0 ? numbers[howManyNumbers - 1] : 0;
        }

        private void skipBlanks() {
            while (at < length && text[at] == ' ') {
                at++;
            }
        }

        private int byteAt(int place) {
            return place >= 0 && place < length ? text[place] : NONE;
        }

        private static boolean isLetter(int b) {
            return b >= 'a' && b <= 'z';
        }

        private static boolean isFigure(int b) {
            return b >= '0' && b <= '9';
        }

        private boolean fail(int number, int place) {
            faultNumber = number;
            faultAt = place;
            return false;
        }
    }

    /**
     * Homes, sorts and the origin, tied by spans. A sort's node holds its zero's negative: so each
     * telling says that the node 'to' less the node 'from' lies from low to high, and ends are
     * shortest ways.
     */
    private static final class Net {
        static final int ORIGIN = HOMES + SORTS;
        static final int NODES = ORIGIN + 1;
        // Longer than any way.
        private static final int NOWHERE = 2000000000;

        private final boolean[] isIn = new boolean[MOST_TELLINGS];
        private final int[] list = new int[MOST_TELLINGS];
        private final int[] from = new int[MOST_TELLINGS];
        private final int[] to = new int[MOST_TELLINGS];
        private final int[] low = new int[MOST_TELLINGS];
        private final int[] high = new int[MOST_TELLINGS];
        // The tellings that are looked at now: those that are in, less what is left out for a try.
        private final int[] tried = new int[MOST_TELLINGS];
        private int howManyTried = 0;
        private int widened = 0;
        private final int[] way = new int[NODES];
        private final int[] by = new int[NODES];
        final boolean[] onWay = new boolean[MOST_TELLINGS];
        final int[] lower = new int[HOMES];
        final int[] upper = new int[HOMES];
        final boolean[] tied = new boolean[HOMES];

        void clear() {
            for (int i = 0; i < MOST_TELLINGS; i++) {
                isIn[i] = false;
            }
            widened = 0;
        }

        void tie(int i, int itsList, int itsFrom, int itsTo) {
            isIn[i] = true;
            list[i] = itsList;
            from[i] = itsFrom;
            to[i] = itsTo;
        }

        void span(int i, int itsLow, int itsHigh) {
            low[i] = itsLow;
            high[i] = itsHigh;
        }

        /** From now on all but a list and two tellings are looked at (NONE: leaves out nothing). */
        void leaveOut(int aList, int one, int another) {
            howManyTried = 0;
            for (int i = 0; i < MOST_TELLINGS; i++) {
                if (isIn[i] && list[i] != aList && i != one && i != another) {
                    tried[howManyTried] = i;
                    howManyTried++;
                }
            }
        }

        void widen(int w) {
            widened = w;
        }

        boolean quarrels() {
            return findUnrest() != NONE;
        }

        /**
         * Writes the tellings of one ring that cannot hold together and answers how many these
         * are; 0, if there is none. To end the quarrel one of them at least must go.
         */
        int findRing(int[] ring) {
            int node = findUnrest();
            if (node == NONE) {
                return 0;
            }
            // Backwards by as many steps as there are nodes one surely is on the ring.
            for (int step = 0; step < NODES && by[node] != NONE; step++) {
                node = otherEnd(by[node], node);
            }
            int start = node;
            int many = 0;
            while (many < NODES && many < ring.length && by[node] != NONE) {
                ring[many] = by[node];
                many++;
                node = otherEnd(by[node], node);
                if (node == start) {
                    break;
                }
            }
            return many;
        }

        /** A node that still moves after as many rounds as a net without a quarrel can need. */
        private int findUnrest() {
            for (int n = 0; n < NODES; n++) {
                way[n] = 0;
                by[n] = NONE;
            }
            int moved = 0;
            for (int round = 0; round < NODES && moved != NONE; round++) {
                moved = relaxAll(UPPER);
            }
            return moved;
        }

        /** Finds how far above (UPPER) or below (LOWER) a node each other one may lie. */
        void reach(int source, int what) {
            for (int n = 0; n < NODES; n++) {
                way[n] = NOWHERE;
                by[n] = NONE;
            }
            way[source] = 0;
            int moved = source;
            for (int round = 0; round < NODES && moved != NONE; round++) {
                moved = relaxAll(what);
            }
        }

        boolean isReached(int node) {
            return way[node] != NOWHERE;
        }

        int bound(int node, int what) {
            return what == UPPER ? way[node] : -way[node];
        }

        /** Marks the tellings of the way just found: no other one can change its end. */
        void markWay(int goal) {
            for (int i = 0; i < MOST_TELLINGS; i++) {
                onWay[i] = false;
            }
            int node = goal;
            for (int step = 0; step < NODES && by[node] != NONE; step++) {
                onWay[by[node]] = true;
                node = otherEnd(by[node], node);
            }
        }

        void findEnds() {
            reach(ORIGIN, UPPER);
            for (int home = 0; home < HOMES; home++) {
                tied[home] = isReached(home);
                upper[home] = bound(home, UPPER);
            }
            reach(ORIGIN, LOWER);
            for (int home = 0; home < HOMES; home++) {
                lower[home] = bound(home, LOWER);
            }
        }

        /** Of the ends that were found last: whether both are farnesses that FAR is told of. */
        boolean liesWithinFar(int home) {
            return tied[home] && lower[home] >= 0 && upper[home] <= FARTHEST;
        }

        private int otherEnd(int i, int node) {
            return from[i] == node ? to[i] : from[i];
        }

        /** One round over all tellings; answers a node that moved, or NONE. */
        private int relaxAll(int what) {
            int moved = NONE;
            for (int k = 0; k < howManyTried; k++) {
                int i = tried[k];
                int onward = (what == UPPER ? high[i] : -low[i]) + widened;
                int backward = (what == UPPER ? -low[i] : high[i]) + widened;
                if (relax(i, from[i], to[i], onward)) {
                    moved = to[i];
                }
                if (relax(i, to[i], from[i], backward)) {
                    moved = from[i];
                }
            }
            return moved;
        }

        private boolean relax(int i, int start, int end, int length) {
            if (way[start] == NOWHERE || way[start] + length >= way[end]) {
                return false;
            }
            way[end] = way[start] + length;
            by[end] = i;
            return true;
        }
    }

    /** What could be done about a net whose tellings quarrel. */
    private static final class Strife {
        // No end of a telling is as far from 0 as this: with it each span holds 0.
        private static final int WIDE_ENOUGH = 1 << 17;

        private final int[] ring = new int[Net.NODES];
        private final int[] secondRing = new int[Net.NODES];
        int fewest = NONE;
        int first = NONE;
        int second = NONE;

        int leastWidening(Net net) {
            if (!net.quarrels()) {
                return 0;
            }
            int tooLittle = 0;
            for (int more = WIDE_ENOUGH / 2; more > 0; more /= 2) {
                net.widen(tooLittle + more);
                tooLittle += net.quarrels() ? more : 0;
            }
            return tooLittle + 1;
        }

        int listsThatEndIt(Net net) {
            int lists = 0;
            for (int list = 0; list < LISTS; list++) {
                net.leaveOut(list, NONE, NONE);
                lists |= net.quarrels() ? 0 : 1 << list;
            }
            return lists;
        }

        /** Sets the fewest tellings that must go; of a ring that cannot hold one must. */
        void seekFewest(Net net) {
            fewest = NONE;
            first = NONE;
            second = NONE;
            int many = net.findRing(ring);
            for (int k = 0; k < many; k++) {
                net.leaveOut(NONE, ring[k], NONE);
                if ((first == NONE || ring[k] < first) && !net.quarrels()) {
                    fewest = 1;
                    first = ring[k];
                }
            }
            for (int k = 0; k < many && fewest != 1; k++) {
                seekPairs(net, ring[k]);
            }
        }

        private void seekPairs(Net net, int one) {
            net.leaveOut(NONE, one, NONE);
            int many = net.findRing(secondRing);
            for (int k = 0; k < many; k++) {
                int least = Math.min(one, secondRing[k]);
                int next = Math.max(one, secondRing[k]);
                net.leaveOut(NONE, least, next);
                if (isAhead(least, next) && !net.quarrels()) {
                    fewest = 2;
                    first = least;
                    second = next;
                }
            }
        }

        private boolean isAhead(int least, int next) {
            return first == NONE || least < first || least == first && next < second;
        }
    }

    /** How the wide grows: far from farness, and the boxes that rednesses keep. */
    private static final class Wide {
        static final int MOST_BOX = 200;
        private static final int DECADE = 5000, STEP = 100;
        private static final int[] TABLE = {
            1000, 1047, 1096, 1148, 1202, 1258, 1318, 1380, 1445, 1513,
            1584, 1659, 1737, 1819, 1905, 1995, 2089, 2187, 2290, 2398,
            2511, 2630, 2754, 2884, 3019, 3162, 3311, 3467, 3630, 3801,
            3981, 4168, 4365, 4570, 4786, 5011, 5248, 5495, 5754, 6025,
            6309, 6606, 6918, 7244, 7585, 7943, 8317, 8709, 9120, 9549};

        final int[] rednessOf = new int[HOMES];
        private final boolean[] speaks = new boolean[HOMES];
        private final long[] least = new long[HOMES];
        private final long[] most = new long[HOMES];
        private int own = 0;

        Wide() {
            for (int home = 0; home < HOMES; home++) {
                rednessOf[home] = NONE;
            }
        }

        static long atLeast(int f) {
            int k = f % DECADE / STEP;
            return k >= 0 && k < TABLE.length ? TABLE[k] * tenTimes(f / DECADE) : 0L;
        }

        static long atMost(int f) {
            int k = f % DECADE / STEP;
            long ten = tenTimes(f / DECADE);
            if (f % STEP == 0) {
                return k == 0 ? atLeast(f) : atLeast(f) + ten;
            }
            return k >= 0 && k + 1 < TABLE.length ? (TABLE[k + 1] + 1) * ten : 10000L * ten;
        }

        private static long tenTimes(int j) {
            long ten = 1;
            for (int n = 0; n < j; n++) {
                ten *= 10;
            }
            return ten;
        }

        /** Notes the homes that have a say, with their fars. */
        void hear(Net net, int itsOwn) {
            own = itsOwn;
            for (int home = 0; home < HOMES; home++) {
                speaks[home] = rednessOf[home] != NONE && net.liesWithinFar(home);
                if (speaks[home]) {
                    least[home] = atLeast(net.lower[home]);
                    most[home] = atMost(net.upper[home]);
                }
            }
        }

        int howManySpeak() {
            int many = 0;
            for (int home = 0; home < HOMES; home++) {
                many += asNumber(speaks[home]);
            }
            return many;
        }

        /** 0 how many boxes are kept, 1 the least of them, 2 the greatest. */
        int keptBoxes(int what) {
            int many = 0;
            int lowest = NONE;
            int highest = NONE;
            for (int g = 1; g <= MOST_BOX; g++) {
                if (firstAgainst(g) == NONE) {
                    many++;
                    highest = g;
                    lowest = lowest == NONE ? g : lowest;
                }
            }
            if (what == 0) {
                return many;
            }
            return what == 1 ? lowest : highest;
        }

        int firstAgainst(int g) {
            for (int home = 0; home < HOMES; home++) {
                if (speaks[home] && !couldHave(home, g)) {
                    return home;
                }
            }
            return NONE;
        }

        private boolean couldHave(int home, int g) {
            long floor = Math.floorDiv(g * least[home], 1000L);
            long ceiling = -Math.floorDiv(-g * most[home], 1000L);
            return rednessOf[home] >= floor - own && rednessOf[home] <= ceiling + own;
        }
    }
}
