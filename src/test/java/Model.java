import java.math.BigInteger;
import java.util.ArrayList;
import java.util.List;
import java.util.NoSuchElementException;

/**
 * The document once more, written for plainness alone and apart from the class: texts cut into tokens first, laws
 * reckoned from trees, whatever is best found by trying all ways.
 */
final class Model {
    static final class Fault extends RuntimeException {
        final int why;
        final int place;

        Fault(int why, int place) {
            this.why = why;
            this.place = place;
        }
    }

    record Token(char kind, String text, int place) { }

    static final class State {
        int day = 1;
        int year = 0;
        int[] sits = new int[6];
        int[] strong = new int[6];
        int[] still = new int[6];
        int[] leaps = new int[6];
        boolean[] caught = new boolean[6];
        boolean[] leapt = new boolean[6];
        int[][] debt = new int[6][6];

        State copy() {
            State s = new State();
            s.day = day;
            s.year = year;
            s.sits = sits.clone();
            s.strong = strong.clone();
            s.still = still.clone();
            s.leaps = leaps.clone();
            s.caught = caught.clone();
            s.leapt = leapt.clone();
            for (int i = 0; i < 6; i++) {
                s.debt[i] = debt[i].clone();
            }
            return s;
        }
    }

    record Image(State state, List<State> past) { }

    private final List<Byte> tape = new ArrayList<>();
    private List<int[]> forms = new ArrayList<>();
    private List<int[]> foxes = new ArrayList<>();
    private List<int[]> hares = new ArrayList<>();
    private String law = null;
    private List<int[]> book = new ArrayList<>();
    private State s = new State();
    private List<State> past = new ArrayList<>();
    private final List<Image> images = new ArrayList<>();
    private int faultPlace = -1;
    private int refused = 0;
    private int noSuch = 0;
    private int illegal = 0;

    // Tokens

    private static List<Token> tokens(String text) {
        List<Token> out = new ArrayList<>();
        int at = 0;
        while (at < text.length()) {
            char c = text.charAt(at);
            int from = at;
            if (c == ' ') {
                at++;
                continue;
            }
            if (c >= '0' && c <= '9') {
                while (at < text.length() && text.charAt(at) >= '0' && text.charAt(at) <= '9') {
                    at++;
                }
                out.add(new Token('n', text.substring(from, at), from));
            } else if (c >= 'a' && c <= 'z') {
                while (at < text.length() && text.charAt(at) >= 'a' && text.charAt(at) <= 'z') {
                    at++;
                }
                out.add(new Token('w', text.substring(from, at), from));
            } else {
                at++;
                out.add(new Token('s', text.substring(from, at), from));
            }
        }
        out.add(new Token('e', "", text.length()));
        return out;
    }

    private List<Token> row;
    private int next;

    private Token peek() {
        return row.get(next);
    }

    private boolean sees(String text) {
        return peek().kind != 'e' && peek().text.equals(text);
    }

    private void needs(String text) {
        if (!sees(text)) {
            throw new Fault(1, peek().place);
        }
        next++;
    }

    private int number(int least, int most) {
        Token t = peek();
        if (t.kind != 'n') {
            throw new Fault(1, t.place);
        }
        BigInteger v = new BigInteger(t.text);
        if (v.compareTo(BigInteger.valueOf(least)) < 0 || v.compareTo(BigInteger.valueOf(most)) > 0) {
            throw new Fault(2, t.place);
        }
        next++;
        return v.intValue();
    }

    private String text(int n, int most) {
        legal(n >= 0 && n <= tape.size() && n <= most);
        StringBuilder b = new StringBuilder();
        for (int i = 0; i < n; i++) {
            b.append((char) (tape.get(i) & 255));
        }
        tape.clear();
        faultPlace = -1;
        row = tokens(b.toString());
        next = 0;
        return b.toString();
    }

    private int blame(Fault f) {
        faultPlace = f.place;
        return f.why - 10;
    }

    // Refusals

    private void legal(boolean fine) {
        if (!fine) {
            illegal++;
            throw new IllegalArgumentException();
        }
    }

    private void in(int value, int least, int most) {
        legal(value >= least && value <= most);
    }

    private void there(int number, List<int[]> all) {
        if (number < 0 || number >= all.size()) {
            noSuch++;
            throw new NoSuchElementException();
        }
    }

    // The face

    public int feed(int a, int b, int c, int d, int e) {
        if (tape.size() + 20 > 600) {
            return -1;
        }
        for (int v : new int[] {a, b, c, d, e}) {
            tape.add((byte) (v >>> 24));
            tape.add((byte) (v >>> 16));
            tape.add((byte) (v >>> 8));
            tape.add((byte) v);
        }
        return tape.size();
    }

    public int down(int n) {
        text(n, 600);
        List<int[]> f = new ArrayList<>();
        List<int[]> h = new ArrayList<>();
        List<int[]> x = new ArrayList<>();
        int[][] debts = new int[6][6];
        try {
            for (int clause = 1; peek().kind != 'e'; clause++) {
                Token word = peek();
                if (!sees("form") && !sees("hare") && !sees("fox") && !sees("debt")) {
                    throw new Fault(1, word.place);
                }
                next++;
                if (clause > 60 || word.text.equals("form") && f.size() == 8
                        || word.text.equals("hare") && h.size() == 6 || word.text.equals("fox") && x.size() == 4) {
                    throw new Fault(3, word.place);
                }
                switch (word.text) {
                    case "form" -> f.add(new int[] {number(0, 30), number(0, 30)});
                    case "fox" -> x.add(new int[] {number(0, 30), number(0, 30)});
                    case "hare" -> h.add(new int[] {number(0, f.size() - 1), number(1, 9)});
                    default -> {
                        int a = number(0, h.size() - 1);
                        int place = peek().place;
                        int b = number(0, h.size() - 1);
                        if (a == b) {
                            throw new Fault(2, place);
                        }
                        debts[a][b] = number(0, 99);
                    }
                }
                needs(";");
            }
        } catch (Fault fault) {
            return blame(fault);
        }
        forms = f;
        hares = h;
        foxes = x;
        law = null;
        book = new ArrayList<>();
        images.clear();
        past.clear();
        refused = 0;
        s = new State();
        s.debt = debts;
        for (int i = 0; i < h.size(); i++) {
            s.sits[i] = h.get(i)[0];
            s.strong[i] = h.get(i)[1];
        }
        return h.size();
    }

    public int law(int n) {
        String text = text(n, 150);
        try {
            sum(new int[8], 0);
            if (peek().kind != 'e') {
                throw new Fault(1, peek().place);
            }
        } catch (Fault fault) {
            return blame(fault);
        }
        law = text;
        return 1;
    }

    private int sum(int[] facts, int open) {
        int v = product(facts, open);
        while (sees("+") || sees("-")) {
            boolean plus = sees("+");
            next++;
            int w = product(facts, open);
            v = plus ? v + w : v - w;
        }
        return v;
    }

    private int product(int[] facts, int open) {
        int v = unit(facts, open);
        while (sees("*") || sees("/") || sees("%")) {
            String sign = peek().text;
            next++;
            int w = unit(facts, open);
            if (sign.equals("*")) {
                v = v * w;
            } else if (w == 0) {
                v = 0;
            } else {
                long exact = sign.equals("/") ? (long) v / w : (long) v % w;
                v = (int) exact;
            }
        }
        return v;
    }

    private static final List<String> FACTS =
            List.of("strong", "still", "owes", "owed", "others", "day", "hare", "leaps");

    private int unit(int[] facts, int open) {
        Token t = peek();
        if (t.kind == 'n') {
            return number(0, 999);
        }
        if (FACTS.contains(t.text)) {
            next++;
            return facts[FACTS.indexOf(t.text)];
        }
        boolean pair = t.text.equals("least") || t.text.equals("most");
        if (!pair && !t.text.equals("(")) {
            throw new Fault(1, t.place);
        }
        if (open == 6) {
            throw new Fault(3, t.place);
        }
        next++;
        if (!pair) {
            int v = sum(facts, open + 1);
            needs(")");
            return v;
        }
        needs("[");
        int v = sum(facts, open + 1);
        needs(",");
        int w = sum(facts, open + 1);
        needs("]");
        return t.text.equals("least") ? Math.min(v, w) : Math.max(v, w);
    }

    private int leapBy(int... facts) {
        int v = 4 + facts[0] - facts[1];
        if (law != null) {
            List<Token> keptRow = row;
            int keptNext = next;
            row = tokens(law);
            next = 0;
            v = sum(facts, 0);
            row = keptRow;
            next = keptNext;
        }
        return Math.max(0, Math.min(60, v));
    }

    public int work(int n) {
        text(n, 150);
        if (past.size() == 16) {
            return -20;
        }
        int start = next;
        try {
            readSteps(0);
            if (peek().kind != 'e') {
                throw new Fault(1, peek().place);
            }
        } catch (Fault fault) {
            return blame(fault);
        }
        past.add(s.copy());
        next = start;
        begun = 0;
        done = 0;
        refused = 0;
        runSteps();
        return done;
    }

    private int begun;
    private int done;

    private void readSteps(int open) {
        while (peek().kind == 'w' || peek().kind == 'n' || peek().kind == 's' && !(open > 0 && sees("]"))) {
            Token word = peek();
            next++;
            switch (word.text) {
                case "leap" -> {
                    number(0, hares.size() - 1);
                    number(0, forms.size() - 1);
                }
                case "box" -> {
                    number(0, hares.size() - 1);
                    number(0, hares.size() - 1);
                }
                case "pay" -> {
                    number(0, hares.size() - 1);
                    number(0, hares.size() - 1);
                    number(1, 99);
                }
                case "day" -> { }
                case "again" -> {
                    if (open == 6) {
                        throw new Fault(3, word.place);
                    }
                    number(0, 40);
                    needs("[");
                    readSteps(open + 1);
                    needs("]");
                }
                default -> throw new Fault(1, word.place);
            }
            needs(";");
        }
    }

    private int num() {
        return Integer.parseInt(row.get(next++).text.replaceFirst("^0+(?=.)", ""));
    }

    /** Does the steps from where it stands to the end or the bracket that closes them. */
    private void runSteps() {
        while (peek().kind == 'w') {
            if (begun == 200) {
                skipSteps();
                return;
            }
            begun++;
            String word = peek().text;
            next++;
            if (word.equals("again")) {
                int times = num();
                needs("[");
                int body = next;
                for (int i = 0; i < times; i++) {
                    next = body;
                    runSteps();
                }
                next = body;
                skipSteps();
                needs("]");
            } else {
                boolean could;
                switch (word) {
                    case "leap" -> could = leap(s, num(), num());
                    case "box" -> could = box(s, num(), num());
                    case "pay" -> could = pay(num(), num(), num());
                    default -> {
                        could = s.year != 40;
                        if (could) {
                            pass(s);
                        }
                    }
                }
                done += could ? 1 : 0;
                refused += could ? 0 : 1;
            }
            needs(";");
        }
    }

    private void skipSteps() {
        int deep = 0;
        while (peek().kind != 'e' && !(deep == 0 && sees("]"))) {
            deep += sees("[") ? 1 : sees("]") ? -1 : 0;
            next++;
        }
    }

    private boolean couldLeap(State t, int h, int f) {
        return !t.caught[h] && t.sits[h] != f && far0(t.sits[h], f) <= leapOf(t, h);
    }

    private boolean leap(State t, int h, int f) {
        if (!couldLeap(t, h, f)) {
            return false;
        }
        t.sits[h] = f;
        t.still[h] = 0;
        t.leaps[h]++;
        t.leapt[h] = true;
        return true;
    }

    private boolean box(State t, int a, int b) {
        if (a == b || t.caught[a] || t.caught[b] || t.sits[a] != t.sits[b]) {
            return false;
        }
        int loser = t.strong[b] > t.strong[a] ? a : b;
        if (t.strong[loser] > 0) {
            t.strong[loser]--;
        }
        t.still[a] = 0;
        t.still[b] = 0;
        t.leapt[a] = true;
        t.leapt[b] = true;
        return true;
    }

    private boolean pay(int a, int b, int n) {
        if (s.caught[a] || s.caught[b] || s.debt[a][b] < n) {
            return false;
        }
        s.debt[a][b] -= n;
        return true;
    }

    private void pass(State t) {
        for (int h = 0; h < hares.size(); h++) {
            if (!t.leapt[h] && !t.caught[h]) {
                t.still[h]++;
            }
        }
        t.leapt = new boolean[6];
        if (t.day < 31) {
            t.day++;
            return;
        }
        t.day = 1;
        t.year++;
        for (int h = 0; h < hares.size(); h++) {
            if (!t.caught[h] && !safe(t.sits[h]) && t.still[h] < 3) {
                t.caught[h] = true;
                for (int o = 0; o < 6; o++) {
                    t.debt[h][o] = 0;
                    t.debt[o][h] = 0;
                }
            } else {
                t.strong[h] = hares.get(h)[1];
                t.still[h] = 0;
            }
        }
    }

    public int book(int n) {
        text(n, 60);
        List<int[]> lines = new ArrayList<>();
        try {
            while (peek().kind != 'e') {
                int place = peek().place;
                int f = number(0, forms.size() - 1);
                for (int[] line : lines) {
                    if (line[0] == f) {
                        throw new Fault(2, place);
                    }
                }
                lines.add(new int[] {f, number(0, 6)});
                needs(";");
            }
        } catch (Fault fault) {
            return blame(fault);
        }
        book = lines;
        return lines.size();
    }

    public int fault() {
        return faultPlace;
    }

    public int undo() {
        if (past.isEmpty()) {
            return -1;
        }
        s = past.remove(past.size() - 1);
        refused = 0;
        return past.size();
    }

    private int bits(boolean[] which) {
        int v = 0;
        for (int i = 0; i < which.length; i++) {
            v += which[i] ? 1 << i : 0;
        }
        return v;
    }

    public int told(int what) {
        in(what, 0, 11);
        boolean[] safeOnes = new boolean[8];
        boolean[] would = new boolean[6];
        for (int f = 0; f < forms.size(); f++) {
            safeOnes[f] = safe(f);
        }
        for (int h = 0; h < hares.size(); h++) {
            would[h] = !s.caught[h] && !safe(s.sits[h]) && s.still[h] < 3;
        }
        return new int[] {forms.size(), hares.size(), foxes.size(), s.day, s.year, bits(s.caught), bits(s.leapt),
            bits(safeOnes), debts(s), book.size(), refused, bits(would)}[what];
    }

    private int debts(State t) {
        int v = 0;
        for (int[] r : t.debt) {
            for (int d : r) {
                v += d;
            }
        }
        return v;
    }

    private boolean safe(int f) {
        for (int[] x : foxes) {
            if (Math.abs(x[0] - forms.get(f)[0]) + Math.abs(x[1] - forms.get(f)[1]) < 4) {
                return false;
            }
        }
        return true;
    }

    private int far0(int f, int g) {
        return Math.abs(forms.get(f)[0] - forms.get(g)[0]) + Math.abs(forms.get(f)[1] - forms.get(g)[1]);
    }

    public int form(int form, int what) {
        there(form, forms);
        in(what, 0, 3);
        boolean[] there = new boolean[6];
        for (int h = 0; h < hares.size(); h++) {
            there[h] = !s.caught[h] && s.sits[h] == form;
        }
        return new int[] {forms.get(form)[0], forms.get(form)[1], safe(form) ? 1 : 0, bits(there)}[what];
    }

    private int owes(State t, int h) {
        int v = 0;
        for (int o = 0; o < 6; o++) {
            v += t.debt[h][o];
        }
        return v;
    }

    private int owed(State t, int h) {
        int v = 0;
        for (int o = 0; o < 6; o++) {
            v += t.debt[o][h];
        }
        return v;
    }

    private int leapOf(State t, int h) {
        int others = 0;
        for (int o = 0; o < hares.size(); o++) {
            if (o != h && !t.caught[o] && t.sits[o] == t.sits[h]) {
                others++;
            }
        }
        return leapBy(t.strong[h], t.still[h], owes(t, h), owed(t, h), others, t.day, h, t.leaps[h]);
    }

    public int hare(int hare, int what) {
        there(hare, hares);
        in(what, 0, 7);
        return new int[] {s.caught[hare] ? -1 : s.sits[hare], s.strong[hare], hares.get(hare)[1], s.still[hare],
            s.leaps[hare], owes(s, hare), owed(s, hare), s.caught[hare] ? 0 : leapOf(s, hare)}[what];
    }

    public int fox(int fox, int what) {
        there(fox, foxes);
        in(what, 0, 1);
        return foxes.get(fox)[what];
    }

    public int debt(int hare, int other) {
        there(hare, hares);
        there(other, hares);
        return s.debt[hare][other];
    }

    public int far(int form, int other) {
        there(form, forms);
        there(other, forms);
        return far0(form, other);
    }

    public int would(int strong, int still, int owes, int owed, int others, int day, int hare, int leaps) {
        legal(strong >= 0 && strong <= 9 && still >= 0 && still <= 999 && owes >= 0 && owes <= 999
                && owed >= 0 && owed <= 999 && others >= 0 && others <= 5 && day >= 1 && day <= 31
                && hare >= 0 && hare <= 5 && leaps >= 0 && leaps <= 999);
        return leapBy(strong, still, owes, owed, others, day, hare, leaps);
    }

    public boolean can(int hare, int form) {
        there(hare, hares);
        there(form, forms);
        return couldLeap(s, hare, form);
    }

    public int ahead(int n, int what) {
        in(n, 0, 99);
        in(what, 0, 2);
        State t = s.copy();
        for (int i = 0; i < n; i++) {
            pass(t);
        }
        return new int[] {t.day, bits(t.caught), debts(t)}[what];
    }

    public int hops(int hare, int form) {
        there(hare, hares);
        there(form, forms);
        if (s.caught[hare]) {
            return -1;
        }
        int leap = leapOf(s, hare);
        int[] best = new int[8];
        java.util.Arrays.fill(best, 99);
        best[s.sits[hare]] = 0;
        for (int round = 0; round < 9; round++) {
            for (int f = 0; f < forms.size(); f++) {
                for (int g = 0; g < forms.size(); g++) {
                    if (far0(f, g) <= leap) {
                        best[g] = Math.min(best[g], best[f] + 1);
                    }
                }
            }
        }
        return best[form] == 99 || best[form] > 50 ? -1 : best[form];
    }

    private int[] bestSeats;
    private int bestMany;

    private void trySeats(int h, int[] given, int many) {
        if (h == hares.size()) {
            if (many > bestMany) {
                bestMany = many;
                bestSeats = given.clone();
            }
            return;
        }
        for (int f = 0; f < forms.size() && !s.caught[h]; f++) {
            boolean taken = false;
            for (int o = 0; o < h; o++) {
                taken |= given[o] == f;
            }
            if (!taken && safe(f) && (s.sits[h] == f || far0(s.sits[h], f) <= leaps[h])) {
                given[h] = f;
                trySeats(h + 1, given, many + 1);
            }
        }
        given[h] = -1;
        trySeats(h + 1, given, many);
    }

    private int[] leaps;

    private void seating() {
        leaps = new int[6];
        for (int h = 0; h < hares.size(); h++) {
            leaps[h] = leapOf(s, h);
        }
        bestMany = -1;
        trySeats(0, new int[hares.size()], 0);
    }

    public int seats() {
        seating();
        return bestMany;
    }

    public int seat(int hare) {
        there(hare, hares);
        seating();
        return bestSeats[hare];
    }

    private List<Integer> bestRing;
    private int bestLength;

    private void tryRing(List<Integer> row0, int length) {
        if (row0.size() == forms.size()) {
            int whole = length + far0(row0.get(row0.size() - 1), 0);
            if (bestRing == null || whole < bestLength) {
                bestLength = whole;
                bestRing = new ArrayList<>(row0);
            }
            return;
        }
        for (int f = 1; f < forms.size(); f++) {
            if (!row0.contains(f)) {
                int step = far0(row0.get(row0.size() - 1), f);
                row0.add(f);
                tryRing(row0, length + step);
                row0.remove(row0.size() - 1);
            }
        }
    }

    public int ring() {
        if (forms.size() < 2) {
            return 0;
        }
        bestRing = null;
        tryRing(new ArrayList<>(List.of(0)), 0);
        return bestLength;
    }

    public int ringed(int k) {
        legal(k >= 0);
        if (k >= forms.size()) {
            return -1;
        }
        bestRing = null;
        tryRing(new ArrayList<>(List.of(0)), 0);
        return bestRing.get(k);
    }

    private int wonBy(int hare, List<Integer> order, List<Integer> left) {
        if (left.isEmpty()) {
            int[] strong = s.strong.clone();
            int stands = order.get(0);
            for (int i = 1; i < order.size(); i++) {
                int other = order.get(i);
                stands = strong[stands] >= strong[other] ? stands : other;
                strong[stands] = Math.max(0, strong[stands] - 1);
            }
            return stands == hare ? 1 : 0;
        }
        int sum = 0;
        for (int i = 0; i < left.size(); i++) {
            int one = left.remove(i);
            order.add(one);
            sum += wonBy(hare, order, left);
            order.remove(order.size() - 1);
            left.add(i, one);
        }
        return sum;
    }

    public int bouts(int hare) {
        there(hare, hares);
        if (s.caught[hare]) {
            return 0;
        }
        List<Integer> all = new ArrayList<>();
        for (int h = 0; h < hares.size(); h++) {
            if (!s.caught[h]) {
                all.add(h);
            }
        }
        return wonBy(hare, new ArrayList<>(), all);
    }

    private int sittingThen(int place, int hare, int form) {
        int n = 0;
        for (int h = 0; h < hares.size(); h++) {
            int at = h == hare ? form : s.sits[h];
            n += !s.caught[h] && at == place ? 1 : 0;
        }
        return n;
    }

    private List<int[]> fitting() {
        List<int[]> pairs = new ArrayList<>();
        for (int h = 0; h < hares.size(); h++) {
            for (int f = 0; f < forms.size(); f++) {
                boolean right = !s.caught[h];
                for (int[] line : book) {
                    right &= sittingThen(line[0], h, f) == line[1];
                }
                if (right) {
                    pairs.add(new int[] {h, f});
                }
            }
        }
        return pairs;
    }

    public int fits(int what) {
        in(what, 0, 1);
        List<int[]> pairs = fitting();
        return what == 0 ? pairs.size() : pairs.isEmpty() ? -1 : 10 * pairs.get(0)[0] + pairs.get(0)[1];
    }

    public int look(int what) {
        in(what, 0, 1);
        int best = -1;
        int bestWorst = -1;
        for (int f = 0; f < forms.size(); f++) {
            boolean told = false;
            for (int[] line : book) {
                told |= line[0] == f;
            }
            int worst = 0;
            for (int n = 0; n <= 6; n++) {
                int left = 0;
                for (int[] pair : fitting()) {
                    left += sittingThen(f, pair[0], pair[1]) == n ? 1 : 0;
                }
                worst = Math.max(worst, left);
            }
            if (!told && (best == -1 || worst < bestWorst)) {
                best = f;
                bestWorst = worst;
            }
        }
        return what == 0 ? best : bestWorst;
    }

    public int watch(int d) {
        in(d, 0, 60);
        for (int size = 0; size <= forms.size(); size++) {
            for (int bits = 0; bits < 1 << forms.size(); bits++) {
                boolean all = Integer.bitCount(bits) == size;
                for (int f = 0; f < forms.size(); f++) {
                    boolean seen = false;
                    for (int g = 0; g < forms.size(); g++) {
                        seen |= (bits & 1 << g) != 0 && (f == g || far0(f, g) <= d);
                    }
                    all &= seen;
                }
                if (all) {
                    return bits;
                }
            }
        }
        return -99;
    }

    public long few(int n, int k, int q, int part) {
        in(n, 0, 12);
        in(k, 0, 12);
        in(q, 0, 16);
        in(part, 0, 1);
        BigInteger[] likely = new BigInteger[14];
        java.util.Arrays.fill(likely, BigInteger.ZERO);
        likely[0] = BigInteger.ONE;
        for (int i = 0; i < n; i++) {
            for (int j = 13; j >= 0; j--) {
                BigInteger unseen = likely[j].multiply(BigInteger.valueOf(16 - q));
                BigInteger seen = j == 0 ? BigInteger.ZERO : likely[j - 1].multiply(BigInteger.valueOf(q));
                likely[j] = unseen.add(seen);
            }
        }
        BigInteger above = BigInteger.ZERO;
        for (int j = 0; j <= k; j++) {
            above = above.add(likely[j]);
        }
        BigInteger below = BigInteger.valueOf(16).pow(n);
        BigInteger both = above.gcd(below);
        return (part == 0 ? above : below).divide(both).longValueExact();
    }

    public int road(int v, int w, int what) {
        in(v, 0, 99);
        in(w, 0, 99);
        in(what, 0, 2);
        if (w == 0) {
            return new int[] {4, 0, 0}[what];
        }
        return new int[] {2, 1, v + w}[what];
    }

    public int clover(int hare, int hares0, int n) {
        there(hare, hares);
        legal(hares0 >= 0 && hares0 < 1 << hares.size() && n >= 0 && n <= 999);
        if ((hares0 & 1 << hare) == 0) {
            return 0;
        }
        int[] has = new int[6];
        int left = n;
        while (true) {
            int wanting = 0;
            for (int h = 0; h < hares.size(); h++) {
                wanting += (hares0 & 1 << h) != 0 && has[h] < owed(s, h) ? 1 : 0;
            }
            if (wanting == 0 || wanting > left) {
                return has[hare];
            }
            for (int h = 0; h < hares.size(); h++) {
                if ((hares0 & 1 << h) != 0 && has[h] < owed(s, h)) {
                    has[h]++;
                    left--;
                }
            }
        }
    }

    public int strongest(int what) {
        in(what, 0, 1);
        for (int strong = 9; strong >= 0; strong--) {
            for (int h = 0; h < hares.size(); h++) {
                if (!s.caught[h] && s.strong[h] == strong) {
                    return what == 0 ? h : strong;
                }
            }
        }
        return -1;
    }

    public int ties(int hare, int what) {
        there(hare, hares);
        in(what, 0, 1);
        boolean[] tied = new boolean[6];
        for (int o = 0; o < 6; o++) {
            tied[o] = (what == 0 ? s.debt[hare][o] : s.debt[o][hare]) != 0;
        }
        return bits(tied);
    }

    public int refuge(int form, int what) {
        there(form, forms);
        in(what, 0, 1);
        for (int d = 0; d <= 60; d++) {
            for (int f = 0; f < forms.size(); f++) {
                if (safe(f) && far0(form, f) == d) {
                    return what == 0 ? f : d;
                }
            }
        }
        return -1;
    }

    public int range(int hare) {
        there(hare, hares);
        boolean[] could = new boolean[8];
        for (int f = 0; f < forms.size(); f++) {
            could[f] = couldLeap(s, hare, f);
        }
        return bits(could);
    }

    private long seedNow;

    private int draw(int by) {
        seedNow = (seedNow * 1103515245L + 12345L) & 0xffffffffL;
        return (int) (seedNow / 65536 % 32768 % by);
    }

    private int marchOf(State t, int seed, int days) {
        seedNow = seed & 0xffffffffL;
        int leapt = 0;
        for (int i = 0; i < days; i++) {
            if (!hares.isEmpty()) {
                int h = draw(hares.size());
                int f = draw(forms.size());
                leapt += leap(t, h, f) ? 1 : 0;
                box(t, h, draw(hares.size()));
            }
            pass(t);
        }
        return leapt;
    }

    public int march(int seed, int days, int what) {
        in(days, 1, 96);
        in(what, 0, 3);
        State t = s.copy();
        int leapt = marchOf(t, seed, days);
        int strong = 0;
        for (int h = 0; h < hares.size(); h++) {
            strong += t.caught[h] ? 0 : t.strong[h];
        }
        return new int[] {leapt, bits(t.caught), strong, t.day}[what];
    }

    public int span(int seed, int many, int days, int what, int hare) {
        legal(many >= 1 && many <= 20 && days >= 1 && days <= 96 && what >= 0 && what <= 2
                && hare >= 0 && hare < hares.size());
        int least = 1000;
        int most = -1;
        int free = 0;
        for (int i = 0; i < many; i++) {
            State t = s.copy();
            int leapt = marchOf(t, seed + i, days);
            least = Math.min(least, leapt);
            most = Math.max(most, leapt);
            free += t.caught[hare] ? 0 : 1;
        }
        return new int[] {least, most, free}[what];
    }

    private static List<State> copies(List<State> of) {
        List<State> out = new ArrayList<>();
        for (State t : of) {
            out.add(t.copy());
        }
        return out;
    }

    public int image() {
        if (images.size() == 3) {
            return -1;
        }
        images.add(new Image(s.copy(), copies(past)));
        return images.size();
    }

    public int restore() {
        if (images.isEmpty()) {
            return -1;
        }
        Image i = images.remove(images.size() - 1);
        s = i.state;
        past = i.past;
        refused = 0;
        return images.size();
    }

    public int status(int what) {
        return what == 0 ? noSuch : what == 1 ? illegal : -1;
    }

    public int count(int what) {
        return what == 0 ? images.size() : what == 1 ? tape.size() : what == 2 ? past.size() : -1;
    }
}
