import java.util.NoSuchElementException;

/** Hares in March on a down of forms and foxes. README.md tells how to use it. */
public final class MarchHares {
    public static final int NONE = -1;

    private static final int MOST_FORMS = 8;
    private static final int MOST_HARES = 6;
    private static final int MOST_FOXES = 4;
    private static final int MOST_LAW = 150;
    private static final int MOST_WORK = 150;
    private static final int MOST_BOOK = 60;
    private static final int MOST_OPEN = 6;
    private static final int MOST_WORKS = 16;
    private static final int MOST_IMAGES = 3;
    private static final int FAULT_LESS = 10;
    private static final int TOO_MANY_WORKS = -20;

    // Of down, law and book a spare one is read, so that a fault leaves the one in force as it is.
    private final Tape tape;
    private Down ground;
    private Down spareGround;
    private Law rule;
    private Law spareRule;
    private Book lines;
    private Book spareLines;
    private final Work steps;
    private final Days now;
    private final Days trial;
    private final Past past;
    private final Past[] images;
    private final Ring round;
    private final Seating seating;
    private final Fitting fitting;
    private int imagesKept;
    private int refusedSteps;
    private int callsNoSuch;
    private int callsIllegal;

    public MarchHares() {
        tape = new Tape();
        ground = new Down();
        spareGround = new Down();
        rule = new Law();
        spareRule = new Law();
        lines = new Book();
        spareLines = new Book();
        steps = new Work();
        now = new Days(ground, rule);
        trial = new Days(ground, rule);
        past = new Past();
        images = new Past[MOST_IMAGES];
        for (int image = 0; image < MOST_IMAGES; image++) {
            images[image] = new Past();
        }
        round = new Ring();
        seating = new Seating();
        fitting = new Fitting();
    }

    public int feed(int a, int b, int c, int d, int e) {
        if (!tape.hasRoom()) {
            return NONE;
        }
        tape.put(a);
        tape.put(b);
        tape.put(c);
        tape.put(d);
        tape.put(e);
        return tape.filled;
    }

    public int down(int n) throws IllegalArgumentException {
        openText(n, Tape.MOST);
        spareGround.readFrom(tape);
        if (tape.isFaulty()) {
            return tape.fault - FAULT_LESS;
        }
        Down older = ground;
        ground = spareGround;
        spareGround = older;
        rule.setPlain();
        lines.clear();
        now.begin(ground, rule);
        past.kept = 0;
        imagesKept = 0;
        refusedSteps = 0;
        return ground.hares;
    }

    public int law(int n) throws IllegalArgumentException {
        openText(n, MOST_LAW);
        spareRule.readFrom(tape);
        if (tape.isFaulty()) {
            return tape.fault - FAULT_LESS;
        }
        Law older = rule;
        rule = spareRule;
        spareRule = older;
        now.obey(rule);
        return 1;
    }

    public int work(int n) throws IllegalArgumentException {
        openText(n, MOST_WORK);
        if (past.kept >= MOST_WORKS) {
            return TOO_MANY_WORKS;
        }
        steps.readFrom(tape, ground.hares, ground.forms);
        if (tape.isFaulty()) {
            return tape.fault - FAULT_LESS;
        }
        past.push(now);
        steps.runOn(now);
        refusedSteps = steps.refused;
        return steps.done;
    }

    public int book(int n) throws IllegalArgumentException {
        openText(n, MOST_BOOK);
        spareLines.readFrom(tape, ground.forms);
        if (tape.isFaulty()) {
            return tape.fault - FAULT_LESS;
        }
        Book older = lines;
        lines = spareLines;
        spareLines = older;
        return lines.many;
    }

    public int fault() {
        return tape.faultPlace;
    }

    public int undo() {
        if (past.kept == 0) {
            return -1;
        }
        past.pop(now);
        refusedSteps = 0;
        return past.kept;
    }

    public int told(int what) throws IllegalArgumentException {
        needWithin(what, 0, 11);
        switch (what) {
            case 0: return ground.forms;
            case 1: return ground.hares;
            case 2: return ground.foxes;
            case 3: return now.day();
            case 4: return now.year();
            case 5: return now.caughtOnes();
            case 6: return now.leaptOnes();
            case 7: return ground.safe;
            case 8: return now.allDebts();
            case 9: return lines.many;
            case 10: return refusedSteps;
            default: return now.endangered();
        }
    }

    public int form(int form, int what) throws NoSuchElementException, IllegalArgumentException {
        needForm(form);
        needWithin(what, 0, 3);
        switch (what) {
            case 0: return ground.formX[form];
            case 1: return ground.formY[form];
            case 2: return ground.isSafe(form) ? 1 : 0;
            default: return now.seatedIn(form);
        }
    }

    public int hare(int hare, int what) throws NoSuchElementException, IllegalArgumentException {
        needHare(hare);
        needWithin(what, 0, 7);
        switch (what) {
            case 0: return now.isCaught(hare) ? NONE : now.sits(hare);
            case 1: return now.strong(hare);
            case 2: return ground.strength[hare];
            case 3: return now.still(hare);
            case 4: return now.leaps(hare);
            case 5: return now.owes(hare);
            case 6: return now.owed(hare);
            default: return now.isCaught(hare) ? 0 : now.reach(hare);
        }
    }

    public int fox(int fox, int what) throws NoSuchElementException, IllegalArgumentException {
        if (!within(fox, 0, ground.foxes - 1)) {
            callsNoSuch++;
            throw new NoSuchElementException("no such fox");
        }
        needWithin(what, 0, 1);
        return what == 0 ? ground.foxX[fox] : ground.foxY[fox];
    }

    public int debt(int hare, int other) throws NoSuchElementException {
        needHare(hare);
        needHare(other);
        return now.owesTo(hare, other);
    }

    public int far(int form, int other) throws NoSuchElementException {
        needForm(form);
        needForm(other);
        return ground.apart(form, other);
    }

    public int would(int strong, int still, int owes, int owed, int others, int day, int hare, int leaps)
            throws IllegalArgumentException {
        needWithin(strong, 0, 9);
        needWithin(still, 0, 999);
        needWithin(owes, 0, 999);
        needWithin(owed, 0, 999);
        needWithin(others, 0, 5);
        needWithin(day, 1, 31);
        needWithin(hare, 0, 5);
        needWithin(leaps, 0, 999);
        rule.setFacts(strong, still, owes, owed, others);
        rule.setTimes(day, hare, leaps);
        return rule.reach();
    }

    public boolean can(int hare, int form) throws NoSuchElementException {
        needHare(hare);
        needForm(form);
        return now.couldLeap(hare, form);
    }

    public int ahead(int n, int what) throws IllegalArgumentException {
        needWithin(n, 0, 99);
        needWithin(what, 0, 2);
        trial.copyFrom(now);
        for (int day = 0; day < n; day++) {
            trial.passDay();
        }
        switch (what) {
            case 0: return trial.day();
            case 1: return trial.caughtOnes();
            default: return trial.allDebts();
        }
    }

    public int hops(int hare, int form) throws NoSuchElementException {
        needHare(hare);
        needForm(form);
        if (now.isCaught(hare)) {
            return NONE;
        }
        return ground.hopsBetween(now.sits(hare), form, now.reach(hare));
    }

    public int seats() {
        seating.settle(now);
        return seating.seated;
    }

    public int seat(int hare) throws NoSuchElementException {
        needHare(hare);
        seating.settle(now);
        return seating.given[hare];
    }

    public int ring() {
        round.settle(ground);
        return round.length;
    }

    public int ringed(int k) throws IllegalArgumentException {
        needLegal(k >= 0);
        if (k >= ground.forms) {
            return NONE;
        }
        round.settle(ground);
        return round.row[k];
    }

    public int bouts(int hare) throws NoSuchElementException {
        needHare(hare);
        if (now.isCaught(hare)) {
            return 0;
        }
        int free = now.freeOnes();
        int orders = 0;
        for (int first = 0; first < ground.hares; first++) {
            if (holds(free, first)) {
                orders += ordersWon(now, hare, first, now.strong(first), free ^ 1 << first);
            }
        }
        return orders;
    }

    public int fits(int what) throws IllegalArgumentException {
        needWithin(what, 0, 1);
        fitting.settle(now, lines);
        return what == 0 ? fitting.many : fitting.first;
    }

    public int look(int what) throws IllegalArgumentException {
        needWithin(what, 0, 1);
        fitting.settle(now, lines);
        fitting.lookAhead();
        return what == 0 ? fitting.lookForm : fitting.lookWorst;
    }

    public int watch(int d) throws IllegalArgumentException {
        needWithin(d, 0, 60);
        return ground.watchers(d);
    }

    public long few(int n, int k, int q, int part) throws IllegalArgumentException {
        needWithin(n, 0, 12);
        needWithin(k, 0, 12);
        needWithin(q, 0, 16);
        needWithin(part, 0, 1);
        long above = 0;
        for (int seen = 0; seen <= k && seen <= n; seen++) {
            above += choices(n, seen) * power(q, seen) * power(16 - q, n - seen);
        }
        long below = 1L << 4 * n;
        // The part below is a power of two, so halving both is all that can be cut.
        for (int halved = 0; halved < 48 && (above & 1) == 0 && (below & 1) == 0; halved++) {
            above >>= 1;
            below >>= 1;
        }
        return part == 0 ? above : below;
    }

    public int road(int v, int w, int what) throws IllegalArgumentException {
        needWithin(v, 0, 99);
        needWithin(w, 0, 99);
        needWithin(what, 0, 2);
        int rests = 0;
        int first = NONE;
        int together = 0;
        for (int pair = 0; pair < 4; pair++) {
            int one = pair / 2;
            int other = pair % 2;
            if (gain(v, w, one, other) >= gain(v, w, 1 - one, other)
                    && gain(v, w, other, one) >= gain(v, w, 1 - other, one)) {
                if (rests == 0) {
                    first = 10 * one + other;
                    together = gain(v, w, one, other) + gain(v, w, other, one);
                }
                rests++;
            }
        }
        switch (what) {
            case 0: return rests;
            case 1: return first;
            default: return together;
        }
    }

    public int clover(int hare, int hares, int n) throws NoSuchElementException, IllegalArgumentException {
        needHare(hare);
        needWithin(hares, 0, (1 << ground.hares) - 1);
        needWithin(n, 0, 999);
        return holds(hares, hare) ? now.cloverFor(hare, hares, n) : 0;
    }

    public int strongest(int what) throws IllegalArgumentException {
        needWithin(what, 0, 1);
        int best = NONE;
        for (int hare = 0; hare < ground.hares; hare++) {
            if (!now.isCaught(hare) && (best == NONE || now.strong(hare) > now.strong(best))) {
                best = hare;
            }
        }
        return what == 0 || best == NONE ? best : now.strong(best);
    }

    public int ties(int hare, int what) throws NoSuchElementException, IllegalArgumentException {
        needHare(hare);
        needWithin(what, 0, 1);
        int bits = 0;
        for (int other = 0; other < ground.hares; other++) {
            int owing = what == 0 ? now.owesTo(hare, other) : now.owesTo(other, hare);
            if (owing > 0) {
                bits |= 1 << other;
            }
        }
        return bits;
    }

    public int refuge(int form, int what) throws NoSuchElementException, IllegalArgumentException {
        needForm(form);
        needWithin(what, 0, 1);
        int nearest = NONE;
        for (int other = 0; other < ground.forms; other++) {
            if (ground.isSafe(other)
                    && (nearest == NONE || ground.apart(form, other) < ground.apart(form, nearest))) {
                nearest = other;
            }
        }
        return what == 0 || nearest == NONE ? nearest : ground.apart(form, nearest);
    }

    public int range(int hare) throws NoSuchElementException {
        needHare(hare);
        return now.leapable(hare);
    }

    public int march(int seed, int days, int what) throws IllegalArgumentException {
        needWithin(days, 1, 96);
        needWithin(what, 0, 3);
        trial.copyFrom(now);
        int leapt = trial.drawDays(seed, days);
        switch (what) {
            case 0: return leapt;
            case 1: return trial.caughtOnes();
            case 2: return trial.strongTogether();
            default: return trial.day();
        }
    }

    public int span(int seed, int many, int days, int what, int hare) throws IllegalArgumentException {
        needWithin(many, 1, 20);
        needWithin(days, 1, 96);
        needWithin(what, 0, 2);
        needWithin(hare, 0, ground.hares - 1);
        int fewest = Integer.MAX_VALUE;
        int most = 0;
        int free = 0;
        for (int next = 0; next < many; next++) {
            trial.copyFrom(now);
            int leapt = trial.drawDays(seed + next, days);
            fewest = Math.min(fewest, leapt);
            most = Math.max(most, leapt);
            free += trial.isCaught(hare) ? 0 : 1;
        }
        switch (what) {
            case 0: return fewest;
            case 1: return most;
            default: return free;
        }
    }

    public int image() {
        if (imagesKept >= MOST_IMAGES) {
            return -1;
        }
        images[imagesKept].copyFrom(past);
        images[imagesKept].push(now);
        imagesKept++;
        return imagesKept;
    }

    public int restore() {
        if (imagesKept == 0) {
            return -1;
        }
        imagesKept--;
        images[imagesKept].pop(now);
        past.copyFrom(images[imagesKept]);
        refusedSteps = 0;
        return imagesKept;
    }

    public int status(int what) {
        switch (what) {
            case 0: return callsNoSuch;
            case 1: return callsIllegal;
            default: return NONE;
        }
    }

    public int count(int what) {
        switch (what) {
            case 0: return imagesKept;
            case 1: return tape.filled;
            case 2: return past.kept;
            default: return NONE;
        }
    }

    private void openText(int n, int most) {
        needWithin(n, 0, Math.min(most, tape.filled));
        tape.open(n);
    }

    private void needForm(int form) {
        if (!within(form, 0, ground.forms - 1)) {
            callsNoSuch++;
            throw new NoSuchElementException("no such form");
        }
    }

    private void needHare(int hare) {
        if (!within(hare, 0, ground.hares - 1)) {
            callsNoSuch++;
            throw new NoSuchElementException("no such hare");
        }
    }

    private void needWithin(int value, int least, int most) {
        needLegal(within(value, least, most));
    }

    private void needLegal(boolean legal) {
        if (!legal) {
            callsIllegal++;
            throw new IllegalArgumentException("an argument is none such");
        }
    }

    /** In how many orders of those left a hare stands last, if one stands that is so strong then. */
    private static int ordersWon(Days days, int hare, int stands, int strength, int left) {
        if (left == 0) {
            return stands == hare ? 1 : 0;
        }
        int orders = 0;
        for (int next = 0; next < MOST_HARES; next++) {
            if (holds(left, next)) {
                int rival = days.strong(next);
                boolean stays = strength >= rival;
                int winner = stays ? stands : next;
                int weaker = Math.max(0, (stays ? strength : rival) - 1);
                orders += ordersWon(days, hare, winner, weaker, left ^ 1 << next);
            }
        }
        return orders;
    }

    /** What one has on the road who runs (0) or turns (1). */
    private static int gain(int v, int w, int one, int other) {
        if (one == 1) {
            return other == 1 ? v : 0;
        }
        return other == 1 ? v + w : -w;
    }

    private static long choices(int n, int k) {
        long ways = 1;
        for (int taken = 1; taken <= k; taken++) {
            ways = ways * (n - taken + 1) / taken;
        }
        return ways;
    }

    private static long power(int base, int times) {
        long product = 1;
        for (int time = 0; time < times; time++) {
            product *= base;
        }
        return product;
    }

    private static boolean within(int value, int least, int most) {
        return value >= least && value <= most;
    }

    private static boolean holds(int bits, int number) {
        return (bits >> number & 1) == 1;
    }

    /** The bytes that were fed, and the reading of a text of them up to its first fault. */
    private static final class Tape {
        static final int MOST = 600;
        static final int FED_AT_ONCE = 20;
        static final int UNFIT = 1;
        static final int NO_SUCH = 2;
        static final int TOO_MANY = 3;
        // Any number this great is out of all bounds, however many digits follow.
        static final int GREAT = 100000;

        private final byte[] bytes = new byte[MOST];
        private int length;
        private int at;
        private int token;
        int filled;
        int fault;
        int faultPlace = NONE;

        boolean hasRoom() {
            return filled + FED_AT_ONCE <= MOST;
        }

        void put(int number) {
            for (int shift = 24; shift >= 0; shift -= 8) {
                if (filled < MOST) {
                    bytes[filled] = (byte) (number >> shift);
                    filled++;
                }
            }
        }

        /** The bytes stay readable while the tape counts as empty: none are fed amid a text. */
        void open(int n) {
            length = Math.min(n, MOST);
            at = 0;
            token = 0;
            filled = 0;
            fault = 0;
            faultPlace = NONE;
        }

        boolean isFaulty() {
            return fault != 0;
        }

        /** The first fault alone counts. */
        private void blame(int why, int place) {
            if (fault == 0) {
                fault = why;
                faultPlace = place;
            }
        }

        void blameSign() {
            skipBlanks();
            blame(UNFIT, at);
        }

        void blameToken(int why) {
            blame(why, token);
        }

        private void skipBlanks() {
            while (at < length && bytes[at] == ' ') {
                at++;
            }
        }

        boolean isEnded() {
            skipBlanks();
            return at >= length;
        }

        boolean seesDigit() {
            skipBlanks();
            return digitAt(at) >= 0;
        }

        private int digitAt(int place) {
            if (place >= length || bytes[place] < '0' || bytes[place] > '9') {
                return NONE;
            }
            return bytes[place] - '0';
        }

        private boolean isLetter(int place) {
            return place < length && bytes[place] >= 'a' && bytes[place] <= 'z';
        }

        boolean takes(char sign) {
            skipBlanks();
            if (isFaulty() || at >= length || bytes[at] != sign) {
                return false;
            }
            token = at;
            at++;
            return true;
        }

        void needs(char sign) {
            if (!takes(sign)) {
                blameSign();
            }
        }

        void needsEnd() {
            if (!isEnded()) {
                blameSign();
            }
        }

        boolean takesWord(String word) {
            skipBlanks();
            int end = at + word.length();
            if (isFaulty() || end > length || isLetter(end)) {
                return false;
            }
            for (int letter = 0; letter < word.length(); letter++) {
                if (bytes[at + letter] != word.charAt(letter)) {
                    return false;
                }
            }
            token = at;
            at = end;
            return true;
        }

        int number(int least, int most) {
            skipBlanks();
            if (digitAt(at) < 0) {
                blame(UNFIT, at);
            }
            if (isFaulty()) {
                return 0;
            }
            token = at;
            int value = 0;
            while (at < length && digitAt(at) >= 0) {
                value = Math.min(GREAT, value * 10 + digitAt(at));
                at++;
            }
            if (!within(value, least, most)) {
                blame(NO_SUCH, token);
            }
            return value;
        }
    }

    /** What a down tells, which no work changes. */
    private static final class Down {
        static final int MOST_CLAUSES = 60;
        static final int MOST_PLACE = 30;
        static final int MOST_STRONG = 9;
        static final int MOST_DEBT = 99;
        static final int FOX_REACH = 3;

        final int[] formX = new int[MOST_FORMS];
        final int[] formY = new int[MOST_FORMS];
        final int[] foxX = new int[MOST_FOXES];
        final int[] foxY = new int[MOST_FOXES];
        final int[] seat = new int[MOST_HARES];
        final int[] strength = new int[MOST_HARES];
        final int[] debts = new int[MOST_HARES * MOST_HARES];
        private final int[] near = new int[MOST_FORMS];
        int forms;
        int hares;
        int foxes;
        int safe;

        void readFrom(Tape text) {
            forms = 0;
            hares = 0;
            foxes = 0;
            for (int pair = 0; pair < debts.length; pair++) {
                debts[pair] = 0;
            }
            for (int clause = 0; clause <= MOST_CLAUSES && !text.isFaulty() && !text.isEnded(); clause++) {
                readClause(text, clause == MOST_CLAUSES);
            }
            findSafe();
        }

        private void readClause(Tape text, boolean full) {
            if (text.takesWord("form")) {
                readForm(text, full);
            } else if (text.takesWord("hare")) {
                readHare(text, full);
            } else if (text.takesWord("fox")) {
                readFox(text, full);
            } else if (text.takesWord("debt")) {
                readDebt(text, full);
            } else {
                text.blameSign();
            }
        }

        private void readForm(Tape text, boolean full) {
            if (full || forms >= MOST_FORMS) {
                text.blameToken(Tape.TOO_MANY);
                return;
            }
            formX[forms] = text.number(0, MOST_PLACE);
            formY[forms] = text.number(0, MOST_PLACE);
            text.needs(';');
            forms++;
        }

        private void readHare(Tape text, boolean full) {
            if (full || hares >= MOST_HARES) {
                text.blameToken(Tape.TOO_MANY);
                return;
            }
            seat[hares] = text.number(0, forms - 1);
            strength[hares] = text.number(1, MOST_STRONG);
            text.needs(';');
            hares++;
        }

        private void readFox(Tape text, boolean full) {
            if (full || foxes >= MOST_FOXES) {
                text.blameToken(Tape.TOO_MANY);
                return;
            }
            foxX[foxes] = text.number(0, MOST_PLACE);
            foxY[foxes] = text.number(0, MOST_PLACE);
            text.needs(';');
            foxes++;
        }

        private void readDebt(Tape text, boolean full) {
            if (full) {
                text.blameToken(Tape.TOO_MANY);
                return;
            }
            int one = text.number(0, hares - 1);
            int other = text.number(0, hares - 1);
            if (one == other) {
                text.blameToken(Tape.NO_SUCH);
            }
            int owing = text.number(0, MOST_DEBT);
            text.needs(';');
            if (!text.isFaulty()) {
                debts[one * MOST_HARES + other] = owing;
            }
        }

        private void findSafe() {
            safe = 0;
            for (int form = 0; form < forms; form++) {
                if (!foxIsNear(form)) {
                    safe |= 1 << form;
                }
            }
        }

        private boolean foxIsNear(int form) {
            for (int fox = 0; fox < foxes; fox++) {
                if (Math.abs(formX[form] - foxX[fox]) + Math.abs(formY[form] - foxY[fox]) <= FOX_REACH) {
                    return true;
                }
            }
            return false;
        }

        boolean isSafe(int form) {
            return holds(safe, form);
        }

        int apart(int form, int other) {
            return Math.abs(formX[form] - formX[other]) + Math.abs(formY[form] - formY[other]);
        }

        /** The forms no farther than so much from one, which is one of them. */
        private int formsWithin(int form, int reach) {
            int bits = 0;
            for (int other = 0; other < forms; other++) {
                if (apart(form, other) <= reach) {
                    bits |= 1 << other;
                }
            }
            return bits;
        }

        int hopsBetween(int from, int to, int reach) {
            int reached = 1 << from;
            for (int hops = 0; hops < MOST_FORMS; hops++) {
                if (holds(reached, to)) {
                    return hops;
                }
                int wider = reached;
                for (int form = 0; form < forms; form++) {
                    if (holds(reached, form)) {
                        wider |= formsWithin(form, reach);
                    }
                }
                reached = wider;
            }
            return NONE;
        }

        int watchers(int reach) {
            for (int form = 0; form < forms; form++) {
                near[form] = formsWithin(form, reach);
            }
            int all = (1 << forms) - 1;
            int best = all;
            for (int chosen = 0; chosen < all; chosen++) {
                if (Integer.bitCount(chosen) < Integer.bitCount(best) && seenFrom(chosen) == all) {
                    best = chosen;
                }
            }
            return best;
        }

        private int seenFrom(int chosen) {
            int seen = 0;
            for (int form = 0; form < forms; form++) {
                if (holds(chosen, form)) {
                    seen |= near[form];
                }
            }
            return seen;
        }
    }

    /** How far a hare leaps, kept with each sign behind what it joins. */
    private static final class Law {
        static final int NUMBER = 0;
        static final int FACT = 1;
        static final int PLUS = 2;
        static final int LESS = 3;
        static final int TIMES = 4;
        static final int OVER = 5;
        static final int REST = 6;
        static final int LEAST = 7;
        static final int MOST = 8;

        static final int STRONG = 0;
        static final int STILL = 1;
        static final int OWES = 2;
        static final int OWED = 3;
        static final int OTHERS = 4;
        static final int DAY = 5;
        static final int HARE = 6;
        static final int LEAPS = 7;
        static final int FACTS = 8;

        static final int GREATEST_NUMBER = 999;
        static final int GREATEST_REACH = 60;

        private final int[] kinds = new int[MOST_LAW];
        private final int[] values = new int[MOST_LAW];
        private final int[] pile = new int[MOST_LAW];
        private final int[] facts = new int[FACTS];
        private int length;

        Law() {
            setPlain();
        }

        void setPlain() {
            length = 0;
            add(NUMBER, 4);
            add(FACT, STRONG);
            add(PLUS, 0);
            add(FACT, STILL);
            add(LESS, 0);
        }

        private void add(int kind, int value) {
            if (length < MOST_LAW) {
                kinds[length] = kind;
                values[length] = value;
                length++;
            }
        }

        void readFrom(Tape text) {
            length = 0;
            readSum(text, 0);
            text.needsEnd();
        }

        private void readSum(Tape text, int open) {
            readProduct(text, open);
            for (int more = 0; more < MOST_LAW && !text.isFaulty(); more++) {
                int kind = text.takes('+') ? PLUS : text.takes('-') ? LESS : NONE;
                if (kind == NONE) {
                    return;
                }
                readProduct(text, open);
                add(kind, 0);
            }
        }

        private void readProduct(Tape text, int open) {
            readUnit(text, open);
            for (int more = 0; more < MOST_LAW && !text.isFaulty(); more++) {
                int kind = text.takes('*') ? TIMES : text.takes('/') ? OVER : text.takes('%') ? REST : NONE;
                if (kind == NONE) {
                    return;
                }
                readUnit(text, open);
                add(kind, 0);
            }
        }

        private void readUnit(Tape text, int open) {
            if (text.seesDigit()) {
                add(NUMBER, text.number(0, GREATEST_NUMBER));
            } else if (text.takes('(')) {
                readInner(text, open);
            } else if (text.takesWord("least")) {
                readPair(text, open, LEAST);
            } else if (text.takesWord("most")) {
                readPair(text, open, MOST);
            } else {
                readFact(text);
            }
        }

        private void readInner(Tape text, int open) {
            if (open >= MOST_OPEN) {
                text.blameToken(Tape.TOO_MANY);
                return;
            }
            readSum(text, open + 1);
            text.needs(')');
        }

        private void readPair(Tape text, int open, int kind) {
            if (open >= MOST_OPEN) {
                text.blameToken(Tape.TOO_MANY);
                return;
            }
            text.needs('[');
            readSum(text, open + 1);
            text.needs(',');
            readSum(text, open + 1);
            text.needs(']');
            add(kind, 0);
        }

        private void readFact(Tape text) {
            if (text.takesWord("strong")) {
                add(FACT, STRONG);
            } else if (text.takesWord("still")) {
                add(FACT, STILL);
            } else if (text.takesWord("owes")) {
                add(FACT, OWES);
            } else if (text.takesWord("owed")) {
                add(FACT, OWED);
            } else if (text.takesWord("others")) {
                add(FACT, OTHERS);
            } else if (text.takesWord("day")) {
                add(FACT, DAY);
            } else if (text.takesWord("hare")) {
                add(FACT, HARE);
            } else if (text.takesWord("leaps")) {
                add(FACT, LEAPS);
            } else {
                text.blameSign();
            }
        }

        void setFacts(int strong, int still, int owes, int owed, int others) {
            facts[STRONG] = strong;
            facts[STILL] = still;
            facts[OWES] = owes;
            facts[OWED] = owed;
            facts[OTHERS] = others;
        }

        void setTimes(int day, int hare, int leaps) {
            facts[DAY] = day;
            facts[HARE] = hare;
            facts[LEAPS] = leaps;
        }

        /** The pile is as long as the law, so that it has room for whatever the law puts on it. */
        int reach() {
            int high = 0;
            for (int next = 0; next < length; next++) {
                int kind = kinds[next];
                if (kind == NUMBER || kind == FACT) {
                    pile[high] = kind == NUMBER ? values[next] : facts[values[next]];
                    high++;
                } else if (high >= 2) {
                    high--;
                    pile[high - 1] = joined(kind, pile[high - 1], pile[high]);
                }
            }
            int out = high > 0 ? pile[0] : 0;
            return Math.max(0, Math.min(GREATEST_REACH, out));
        }

        private static int joined(int kind, int one, int other) {
            switch (kind) {
                case PLUS: return one + other;
                case LESS: return one - other;
                case TIMES: return one * other;
                case OVER: return other == 0 ? 0 : one / other;
                case REST: return other == 0 ? 0 : one % other;
                case LEAST: return one < other ? one : other;
                default: return one > other ? one : other;
            }
        }
    }

    /** The steps of a text, a loop's head and its end among them, and what doing them came to. */
    private static final class Work {
        static final int LEAP = 0;
        static final int BOX = 1;
        static final int PAY = 2;
        static final int DAY = 3;
        static final int AGAIN = 4;
        static final int END = 5;

        // The shortest step, day; has four bytes, and a loop with its end, two steps here, nine.
        static final int MOST_STEPS = MOST_WORK / 3;
        static final int MOST_ROUNDS = 40;
        static final int MOST_PAID = 99;
        static final int MOST_BEGUN = 200;
        static final int LAST_YEAR = 40;
        // Each of 200 steps may be an empty loop of 40 rounds, and close six others.
        static final int MOST_TICKS = 20000;

        private final int[] kinds = new int[MOST_STEPS];
        private final int[] first = new int[MOST_STEPS];
        private final int[] second = new int[MOST_STEPS];
        private final int[] third = new int[MOST_STEPS];
        private final int[] heads = new int[MOST_OPEN];
        private final int[] rounds = new int[MOST_OPEN];
        private int length;
        private int open;
        private int hares;
        private int forms;
        int done;
        int refused;

        void readFrom(Tape text, int haresThere, int formsThere) {
            hares = haresThere;
            forms = formsThere;
            length = 0;
            open = 0;
            for (int read = 0; read <= MOST_WORK && !text.isFaulty(); read++) {
                if (open == 0 && text.isEnded()) {
                    return;
                }
                if (open > 0 && text.takes(']')) {
                    closeLoop();
                    text.needs(';');
                } else {
                    readStep(text);
                }
            }
        }

        private void readStep(Tape text) {
            if (text.takesWord("again")) {
                openLoop(text);
                return;
            }
            if (text.takesWord("leap")) {
                int hare = text.number(0, hares - 1);
                add(LEAP, hare, text.number(0, forms - 1), 0);
            } else if (text.takesWord("box")) {
                int one = text.number(0, hares - 1);
                add(BOX, one, text.number(0, hares - 1), 0);
            } else if (text.takesWord("pay")) {
                int one = text.number(0, hares - 1);
                int other = text.number(0, hares - 1);
                add(PAY, one, other, text.number(1, MOST_PAID));
            } else if (text.takesWord("day")) {
                add(DAY, 0, 0, 0);
            } else {
                text.blameSign();
            }
            text.needs(';');
        }

        private void openLoop(Tape text) {
            if (open >= MOST_OPEN) {
                text.blameToken(Tape.TOO_MANY);
                return;
            }
            int times = text.number(0, MOST_ROUNDS);
            text.needs('[');
            heads[open] = length;
            open++;
            add(AGAIN, times, 0, 0);
        }

        private void closeLoop() {
            open--;
            int head = heads[open];
            if (head < MOST_STEPS) {
                second[head] = length;
            }
            add(END, head, 0, 0);
        }

        private void add(int kind, int one, int other, int more) {
            if (length < MOST_STEPS) {
                kinds[length] = kind;
                first[length] = one;
                second[length] = other;
                third[length] = more;
                length++;
            }
        }

        void runOn(Days days) {
            done = 0;
            refused = 0;
            open = 0;
            int begun = 0;
            int at = 0;
            for (int tick = 0; tick < MOST_TICKS && begun < MOST_BEGUN && at < length; tick++) {
                if (kinds[at] == END) {
                    at = behindEnd(at);
                    continue;
                }
                begun++;
                if (kinds[at] == AGAIN) {
                    at = behindAgain(at);
                    continue;
                }
                if (isAllowed(at, days)) {
                    doStep(at, days);
                    done++;
                } else {
                    refused++;
                }
                at++;
            }
        }

        private int behindEnd(int at) {
            if (open == 0) {
                return at + 1;
            }
            rounds[open - 1]--;
            if (rounds[open - 1] > 0) {
                return first[at] + 1;
            }
            open--;
            return at + 1;
        }

        private int behindAgain(int at) {
            if (first[at] == 0 || open >= MOST_OPEN) {
                return second[at] + 1;
            }
            rounds[open] = first[at];
            open++;
            return at + 1;
        }

        private void doStep(int at, Days days) {
            switch (kinds[at]) {
                case LEAP:
                    days.leapTo(first[at], second[at]);
                    break;
                case BOX:
                    days.fight(first[at], second[at]);
                    break;
                case PAY:
                    days.payBack(first[at], second[at], third[at]);
                    break;
                default:
                    days.passDay();
                    break;
            }
        }

        private boolean isAllowed(int at, Days days) {
            switch (kinds[at]) {
                case LEAP: return days.couldLeap(first[at], second[at]);
                case BOX: return days.couldFight(first[at], second[at]);
                case PAY: return days.couldPay(first[at], second[at], third[at]);
                default: return days.year() < LAST_YEAR;
            }
        }
    }

    /** How many were seen to sit in some forms. */
    private static final class Book {
        private final int[] seen = new int[MOST_FORMS];
        int many;

        Book() {
            clear();
        }

        void clear() {
            many = 0;
            for (int form = 0; form < MOST_FORMS; form++) {
                seen[form] = NONE;
            }
        }

        void readFrom(Tape text, int forms) {
            clear();
            // No form stands twice, so a line more than there are forms has a fault.
            for (int line = 0; line <= MOST_FORMS && !text.isFaulty() && !text.isEnded(); line++) {
                readLine(text, forms);
            }
        }

        private void readLine(Tape text, int forms) {
            int form = text.number(0, forms - 1);
            if (within(form, 0, forms - 1) && tells(form)) {
                text.blameToken(Tape.NO_SUCH);
            }
            int hares = text.number(0, MOST_HARES);
            text.needs(';');
            if (!text.isFaulty()) {
                seen[form] = hares;
                many++;
            }
        }

        boolean tells(int form) {
            return seen[form] != NONE;
        }

        boolean agrees(int form, int hares) {
            return seen[form] == NONE || seen[form] == hares;
        }
    }

    /** All that work changes, in one row that is copied whole, and the rules by which it changes. */
    private static final class Days {
        static final int DAY = 0;
        static final int YEAR = 1;
        static final int CAUGHT = 2;
        static final int LEAPT = 3;
        static final int SITS = 4;
        static final int STRONG = SITS + MOST_HARES;
        static final int STILL = STRONG + MOST_HARES;
        static final int LEAPS = STILL + MOST_HARES;
        static final int DEBTS = LEAPS + MOST_HARES;
        static final int ROW = DEBTS + MOST_HARES * MOST_HARES;

        static final int LAST_DAY = 31;
        static final int STILL_ENOUGH = 3;
        static final int MOST_OWED = (MOST_HARES - 1) * Down.MOST_DEBT;

        final int[] row = new int[ROW];
        private final int[] owedEach = new int[MOST_HARES];
        Down down;
        private Law law;

        Days(Down first, Law plain) {
            begin(first, plain);
        }

        void begin(Down told, Law plain) {
            down = told;
            law = plain;
            for (int at = 0; at < ROW; at++) {
                row[at] = 0;
            }
            row[DAY] = 1;
            for (int hare = 0; hare < told.hares; hare++) {
                row[SITS + hare] = told.seat[hare];
                row[STRONG + hare] = told.strength[hare];
            }
            System.arraycopy(told.debts, 0, row, DEBTS, MOST_HARES * MOST_HARES);
        }

        void obey(Law other) {
            law = other;
        }

        void copyFrom(Days other) {
            down = other.down;
            law = other.law;
            System.arraycopy(other.row, 0, row, 0, ROW);
        }

        int day() {
            return row[DAY];
        }

        int year() {
            return row[YEAR];
        }

        int caughtOnes() {
            return row[CAUGHT];
        }

        int leaptOnes() {
            return row[LEAPT];
        }

        int freeOnes() {
            return (1 << down.hares) - 1 & ~row[CAUGHT];
        }

        boolean isCaught(int hare) {
            return (row[CAUGHT] >> hare & 1) == 1;
        }

        int sits(int hare) {
            return row[SITS + hare];
        }

        int strong(int hare) {
            return row[STRONG + hare];
        }

        int still(int hare) {
            return row[STILL + hare];
        }

        int leaps(int hare) {
            return row[LEAPS + hare];
        }

        int owesTo(int hare, int other) {
            return row[DEBTS + hare * MOST_HARES + other];
        }

        int owes(int hare) {
            int sum = 0;
            for (int other = 0; other < down.hares; other++) {
                sum += owesTo(hare, other);
            }
            return sum;
        }

        int owed(int hare) {
            int sum = 0;
            for (int other = 0; other < down.hares; other++) {
                sum += owesTo(other, hare);
            }
            return sum;
        }

        int allDebts() {
            int sum = 0;
            for (int hare = 0; hare < down.hares; hare++) {
                sum += owes(hare);
            }
            return sum;
        }

        int seatedIn(int form) {
            int bits = 0;
            for (int hare = 0; hare < down.hares; hare++) {
                if (!isCaught(hare) && sits(hare) == form) {
                    bits |= 1 << hare;
                }
            }
            return bits;
        }

        int strongTogether() {
            int sum = 0;
            for (int hare = 0; hare < down.hares; hare++) {
                sum += isCaught(hare) ? 0 : strong(hare);
            }
            return sum;
        }

        int reach(int hare) {
            int others = Integer.bitCount(seatedIn(sits(hare)) & ~(1 << hare));
            law.setFacts(strong(hare), still(hare), owes(hare), owed(hare), others);
            law.setTimes(day(), hare, leaps(hare));
            return law.reach();
        }

        boolean couldLeap(int hare, int form) {
            return !isCaught(hare) && sits(hare) != form && down.apart(sits(hare), form) <= reach(hare);
        }

        int leapable(int hare) {
            if (isCaught(hare)) {
                return 0;
            }
            return down.formsWithin(sits(hare), reach(hare)) & ~(1 << sits(hare));
        }

        void leapTo(int hare, int form) {
            row[SITS + hare] = form;
            row[LEAPS + hare]++;
            stir(hare);
        }

        private void stir(int hare) {
            row[STILL + hare] = 0;
            row[LEAPT] |= 1 << hare;
        }

        boolean couldFight(int one, int other) {
            return one != other && !isCaught(one) && !isCaught(other) && sits(one) == sits(other);
        }

        void fight(int one, int other) {
            int loser = strong(one) >= strong(other) ? other : one;
            row[STRONG + loser] = Math.max(0, strong(loser) - 1);
            stir(one);
            stir(other);
        }

        boolean couldPay(int one, int other, int much) {
            return !isCaught(one) && !isCaught(other) && owesTo(one, other) >= much;
        }

        void payBack(int one, int other, int much) {
            row[DEBTS + one * MOST_HARES + other] -= much;
        }

        /** Whether the year allows it is looked at by work alone: asked, days go by in any year. */
        void passDay() {
            for (int hare = 0; hare < down.hares; hare++) {
                if (!holds(row[CAUGHT] | row[LEAPT], hare)) {
                    row[STILL + hare]++;
                }
            }
            row[LEAPT] = 0;
            row[DAY]++;
            if (row[DAY] > LAST_DAY) {
                strike();
                row[DAY] = 1;
                row[YEAR]++;
            }
        }

        /** By the document's words those caught in other years are among all others, too. */
        private void strike() {
            int taken = endangered();
            for (int hare = 0; hare < down.hares; hare++) {
                if (holds(taken, hare)) {
                    row[CAUGHT] |= 1 << hare;
                    dropDebts(hare);
                } else {
                    row[STRONG + hare] = down.strength[hare];
                    row[STILL + hare] = 0;
                }
            }
        }

        int endangered() {
            int bits = 0;
            for (int hare = 0; hare < down.hares; hare++) {
                if (!isCaught(hare) && !down.isSafe(sits(hare)) && still(hare) < STILL_ENOUGH) {
                    bits |= 1 << hare;
                }
            }
            return bits;
        }

        private void dropDebts(int hare) {
            for (int other = 0; other < down.hares; other++) {
                row[DEBTS + hare * MOST_HARES + other] = 0;
                row[DEBTS + other * MOST_HARES + hare] = 0;
            }
        }

        /** A March by a seed: how many leaps were done. */
        int drawDays(int seed, int days) {
            int drawn = seed;
            int leapt = 0;
            for (int day = 0; day < days; day++) {
                if (down.hares > 0 && down.forms > 0) {
                    drawn = nextSeed(drawn);
                    int hare = drawnBits(drawn) % down.hares;
                    drawn = nextSeed(drawn);
                    leapt += leapIfAllowed(hare, drawnBits(drawn) % down.forms);
                    drawn = nextSeed(drawn);
                    fightIfAllowed(hare, drawnBits(drawn) % down.hares);
                }
                passDay();
            }
            return leapt;
        }

        private int leapIfAllowed(int hare, int form) {
            if (!couldLeap(hare, form)) {
                return 0;
            }
            leapTo(hare, form);
            return 1;
        }

        private void fightIfAllowed(int one, int other) {
            if (couldFight(one, other)) {
                fight(one, other);
            }
        }

        private static int nextSeed(int seed) {
            return seed * 1103515245 + 12345;
        }

        private static int drawnBits(int seed) {
            return seed >>> 16 & 0x7fff;
        }

        /** What one of these hares gets, if no more than so much is given to them. */
        int cloverFor(int hare, int hares, int much) {
            for (int each = 0; each < down.hares; each++) {
                owedEach[each] = holds(hares, each) ? owed(each) : 0;
            }
            int bound = 0;
            while (bound < MOST_OWED && givenBy(bound + 1) <= much) {
                bound++;
            }
            return Math.min(bound, owedEach[hare]);
        }

        private int givenBy(int bound) {
            int sum = 0;
            for (int each = 0; each < down.hares; each++) {
                sum += Math.min(bound, owedEach[each]);
            }
            return sum;
        }
    }

    /** Rows as they were ahead of works; an image is such a past with the row of its time on top. */
    private static final class Past {
        private final int[] rows = new int[(MOST_WORKS + 1) * Days.ROW];
        int kept;

        void push(Days days) {
            if (kept <= MOST_WORKS) {
                System.arraycopy(days.row, 0, rows, kept * Days.ROW, Days.ROW);
                kept++;
            }
        }

        void pop(Days days) {
            if (kept > 0) {
                kept--;
                System.arraycopy(rows, kept * Days.ROW, days.row, 0, Days.ROW);
            }
        }

        void copyFrom(Past other) {
            System.arraycopy(other.rows, 0, rows, 0, other.kept * Days.ROW);
            kept = other.kept;
        }
    }

    /** The shortest way round all forms, found by what is left to go from each place. */
    private static final class Ring {
        // Form 0 is first, so that only the others are ever left.
        private final int[] least = new int[MOST_FORMS << MOST_FORMS - 1];
        final int[] row = new int[MOST_FORMS];
        int length;

        void settle(Down down) {
            length = 0;
            if (down.forms == 0) {
                return;
            }
            int all = (1 << down.forms - 1) - 1;
            for (int left = 0; left <= all; left++) {
                settleFor(down, left);
            }
            least[all * MOST_FORMS] = leastWay(down, all, 0);
            length = least[all * MOST_FORMS];
            walk(down, all);
        }

        /** No way stands in a form that is left yet, nor in form 0 but at its beginning. */
        private void settleFor(Down down, int left) {
            for (int last = 1; last < down.forms; last++) {
                if (!holds(left, last - 1)) {
                    least[left * MOST_FORMS + last] = leastWay(down, left, last);
                }
            }
        }

        private int leastWay(Down down, int left, int last) {
            if (left == 0) {
                return down.apart(last, 0);
            }
            int way = Integer.MAX_VALUE;
            for (int next = 1; next < down.forms; next++) {
                if (holds(left, next - 1)) {
                    way = Math.min(way, wayOver(down, left, last, next));
                }
            }
            return way;
        }

        private int wayOver(Down down, int left, int last, int next) {
            int without = left & ~(1 << next - 1);
            return down.apart(last, next) + least[without * MOST_FORMS + next];
        }

        private void walk(Down down, int all) {
            int left = all;
            int last = 0;
            row[0] = 0;
            for (int place = 1; place < down.forms; place++) {
                last = firstBest(down, left, last);
                left &= ~(1 << last - 1);
                row[place] = last;
            }
        }

        private int firstBest(Down down, int left, int last) {
            int best = least[left * MOST_FORMS + last];
            for (int next = 1; next < down.forms; next++) {
                if (holds(left, next - 1) && wayOver(down, left, last, next) == best) {
                    return next;
                }
            }
            return last;
        }
    }

    /** Whom to seat in which safe form, found by what the later hares can have yet. */
    private static final class Seating {
        private final int[] most = new int[MOST_HARES + 1 << MOST_FORMS];
        private final int[] allowed = new int[MOST_HARES];
        final int[] given = new int[MOST_HARES];
        int seated;

        void settle(Days days) {
            int hares = days.down.hares;
            int all = 1 << days.down.forms;
            for (int used = 0; used < all; used++) {
                most[(hares << MOST_FORMS) + used] = 0;
            }
            for (int hare = hares - 1; hare >= 0; hare--) {
                allowed[hare] = allowedTo(days, hare);
                for (int used = 0; used < all; used++) {
                    most[(hare << MOST_FORMS) + used] = mostFrom(hare, used);
                }
            }
            seated = most[0];
            give(hares);
        }

        private int allowedTo(Days days, int hare) {
            if (days.isCaught(hare)) {
                return 0;
            }
            return (days.leapable(hare) | 1 << days.sits(hare)) & days.down.safe;
        }

        private int mostFrom(int hare, int used) {
            int free = allowed[hare] & ~used;
            int best = mostBehind(hare, used);
            for (int form = 0; form < MOST_FORMS; form++) {
                if (holds(free, form)) {
                    best = Math.max(best, 1 + mostBehind(hare, used | 1 << form));
                }
            }
            return best;
        }

        private int mostBehind(int hare, int used) {
            return most[(hare + 1 << MOST_FORMS) + used];
        }

        private void give(int hares) {
            int used = 0;
            for (int hare = 0; hare < hares; hare++) {
                given[hare] = firstBest(hare, used);
                if (given[hare] != NONE) {
                    used |= 1 << given[hare];
                }
            }
        }

        private int firstBest(int hare, int used) {
            int free = allowed[hare] & ~used;
            int best = most[(hare << MOST_FORMS) + used];
            for (int form = 0; form < MOST_FORMS; form++) {
                if (holds(free, form) && 1 + mostBehind(hare, used | 1 << form) == best) {
                    return form;
                }
            }
            return NONE;
        }
    }

    /** Who may have leapt where by the book, and the form to look at next. */
    private static final class Fitting {
        private final int[] seated = new int[MOST_FORMS];
        private final int[] sits = new int[MOST_HARES];
        private final int[] fittingForms = new int[MOST_HARES];
        private final int[] tally = new int[MOST_HARES + 1];
        private int hares;
        private int forms;
        private Book book;
        int many;
        int first;
        int lookForm;
        int lookWorst;

        void settle(Days days, Book lines) {
            hares = days.down.hares;
            forms = days.down.forms;
            book = lines;
            many = 0;
            first = NONE;
            for (int form = 0; form < forms; form++) {
                seated[form] = Integer.bitCount(days.seatedIn(form));
            }
            for (int hare = 0; hare < hares; hare++) {
                sits[hare] = days.sits(hare);
                fittingForms[hare] = days.isCaught(hare) ? 0 : formsFor(hare);
            }
        }

        private int formsFor(int hare) {
            int bits = 0;
            for (int form = 0; form < forms; form++) {
                if (allRight(hare, form)) {
                    bits |= 1 << form;
                    first = many == 0 ? 10 * hare + form : first;
                    many++;
                }
            }
            return bits;
        }

        private boolean allRight(int hare, int form) {
            for (int place = 0; place < forms; place++) {
                if (book == null || !book.agrees(place, seatedThen(place, hare, form))) {
                    return false;
                }
            }
            return true;
        }

        private int seatedThen(int place, int hare, int form) {
            return seated[place] - (sits[hare] == place ? 1 : 0) + (form == place ? 1 : 0);
        }

        void lookAhead() {
            lookForm = NONE;
            lookWorst = NONE;
            for (int place = 0; place < forms; place++) {
                if (book != null && !book.tells(place)) {
                    int worst = worstAt(place);
                    if (lookForm == NONE || worst < lookWorst) {
                        lookForm = place;
                        lookWorst = worst;
                    }
                }
            }
        }

        private int worstAt(int place) {
            for (int number = 0; number <= MOST_HARES; number++) {
                tally[number] = 0;
            }
            int worst = 0;
            for (int hare = 0; hare < hares; hare++) {
                for (int form = 0; form < forms; form++) {
                    if (holds(fittingForms[hare], form)) {
                        worst = Math.max(worst, tallied(seatedThen(place, hare, form)));
                    }
                }
            }
            return worst;
        }

        private int tallied(int number) {
            if (!within(number, 0, MOST_HARES)) {
                return 0;
            }
            tally[number]++;
            return tally[number];
        }
    }
}
