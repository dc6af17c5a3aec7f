import java.util.ArrayDeque;
import java.util.ArrayList;
import java.util.Arrays;
import java.util.Deque;
import java.util.List;

/**
 * The document once more, in the slowest and plainest way, so that the class and this one can be
 * asked the same and must answer alike. Nothing here is shared with the class.
 */
final class Oracle {
    static final int NONE = -1;

    static final class Fault extends RuntimeException {
        private static final long serialVersionUID = 1L;
        final int number;

        Fault(int place, int kind) {
            super("place " + place + " kind " + kind);
            number = 1 + 8 * place + kind;
        }
    }

    static final class Flag implements Cloneable {
        int cell;
        int stand;
        int mark;
        int fell = NONE;

        Flag(int cell, int stand, int mark) {
            this.cell = cell;
            this.stand = stand;
            this.mark = mark;
        }

        Flag copy() {
            Flag f = new Flag(cell, stand, mark);
            f.fell = fell;
            return f;
        }
    }

    static final class State {
        int columns;
        int rows;
        int[] heights = new int[0];
        boolean[] wet = new boolean[0];
        List<Flag> flags = new ArrayList<>();
        List<Integer> forces = new ArrayList<>();
        int[] odds = {0, 1, 0};
        int marks;
        int wave;

        State copy() {
            State s = new State();
            s.columns = columns;
            s.rows = rows;
            s.heights = heights.clone();
            s.wet = wet.clone();
            for (Flag f : flags) {
                s.flags.add(f.copy());
            }
            s.forces = forces;
            s.odds = odds;
            s.marks = marks;
            s.wave = wave;
            return s;
        }

        int cells() {
            return columns * rows;
        }

        int force(int w) {
            return forces.isEmpty() ? 5 : forces.get(w % forces.size());
        }

        /** The cell to a side of a cell, or NONE. */
        int to(int cell, int side) {
            int row = cell / columns + (side == 0 ? -1 : side == 2 ? 1 : 0);
            int column = cell % columns + (side == 1 ? 1 : side == 3 ? -1 : 0);
            boolean there = row >= 0 && row < rows && column >= 0 && column < columns;
            return there ? columns * row + column : NONE;
        }

        int standing() {
            int bits = 0;
            for (int i = 0; i < flags.size(); i++) {
                if (flags.get(i).fell == NONE) {
                    bits |= 1 << i;
                }
            }
            return bits;
        }

        int[] strengths(int force) {
            int[] s = new int[cells()];
            boolean more = true;
            while (more) {
                more = false;
                for (int c = 0; c < cells(); c++) {
                    int most = c / columns == rows - 1 ? force - 1 - Math.max(0, heights[c]) : 0;
                    for (int side = 0; side < 4; side++) {
                        int o = to(c, side);
                        if (o != NONE && s[o] >= 1) {
                            most = Math.max(most, s[o] - 1 - Math.max(0, heights[c] - heights[o]));
                        }
                    }
                    if (most >= 1 && most > s[c]) {
                        s[c] = most;
                        more = true;
                    }
                }
            }
            return s;
        }

        List<Integer> way(int cell, int force) {
            int[] s = strengths(force);
            List<Integer> back = new ArrayList<>();
            int at = s[cell] >= 1 ? cell : NONE;
            while (at != NONE) {
                back.add(0, at);
                if (at / columns == rows - 1 && force - 1 - heights[at] == s[at]) {
                    break;
                }
                int from = NONE;
                for (int o = 0; o < cells() && from == NONE; o++) {
                    for (int side = 0; side < 4; side++) {
                        if (to(at, side) == o && s[o] >= 1
                                && s[o] - 1 - Math.max(0, heights[at] - heights[o]) == s[at]) {
                            from = o;
                        }
                    }
                }
                at = from;
            }
            return back;
        }

        int strike(int force, Rule rule) {
            int[] s = strengths(force);
            int[] after = heights.clone();
            int came = 0;
            for (int c = 0; c < cells(); c++) {
                if (s[c] >= 1) {
                    came++;
                    int take = rule == null ? (s[c] >= 3 ? 1 : 0) : rule.take(words(c, s[c], force));
                    after[c] = Math.max(0, heights[c] - take);
                }
            }
            heights = after;
            for (Flag f : flags) {
                if (f.fell == NONE && (s[f.cell] >= f.stand || heights[f.cell] == 0)) {
                    f.fell = wave;
                }
            }
            for (Flag f : flags) {
                marks += f.fell == NONE ? f.mark : 0;
            }
            for (int c = 0; c < cells(); c++) {
                wet[c] = s[c] >= 1;
            }
            wave = Math.min(999, wave + 1);
            return came;
        }

        void go(int n, Rule rule) {
            for (int i = 0; i < n; i++) {
                strike(force(wave), rule);
            }
        }

        long[] words(int c, int strength, int force) {
            int in = 0;
            for (Flag f : flags) {
                in += f.fell == NONE && f.cell == c ? 1 : 0;
            }
            int low = 99;
            int high = -1;
            for (int side = 0; side < 4; side++) {
                int o = to(c, side);
                if (o != NONE) {
                    low = Math.min(low, heights[o]);
                    high = Math.max(high, heights[o]);
                }
            }
            return new long[] {c, heights[c], strength, wet[c] ? 1 : 0, force, wave, in, low, high};
        }

        boolean spade(int cell, int side) {
            int o = to(cell, side);
            if (o == NONE || heights[cell] == 0 || heights[o] == 9) {
                return false;
            }
            heights[cell]--;
            heights[o]++;
            return true;
        }

        void give(int flag) {
            Flag f = flags.get(flag);
            f.fell = wave;
            heights[f.cell] = Math.min(9, heights[f.cell] + 1);
        }
    }

    interface Worth {
        long of(long[] words);
    }

    static final class Rule {
        final List<Worth> sums = new ArrayList<>();
        final List<Worth> tests = new ArrayList<>();

        int take(long[] words) {
            for (int i = 0; i < sums.size(); i++) {
                if (tests.get(i) == null || tests.get(i).of(words) == 1) {
                    long sum = sums.get(i).of(words);
                    return sum < 0 ? 0 : sum > 3 ? 3 : (int) sum;
                }
            }
            return 0;
        }
    }

    /** A recursive reader that ends with a Fault where the text has one. */
    static final class Text {
        final String s;
        int at;
        int parts;

        Text(String s) {
            this.s = s;
        }

        void blanks() {
            while (at < s.length() && s.charAt(at) == ' ') {
                at++;
            }
        }

        char peek() {
            return at < s.length() ? s.charAt(at) : '\0';
        }

        /** The word that stands here, without going behind it. */
        String word() {
            int e = at;
            while (e < s.length() && s.charAt(e) >= 'a' && s.charAt(e) <= 'z') {
                e++;
            }
            return s.substring(at, e);
        }

        String digits() {
            int e = at;
            while (e < s.length() && s.charAt(e) >= '0' && s.charAt(e) <= '9') {
                e++;
            }
            return s.substring(at, e);
        }

        int number(int least, int most) {
            blanks();
            String d = digits();
            if (d.isEmpty()) {
                throw new Fault(at, 0);
            }
            if (d.length() > 5 || Integer.parseInt(d) < least || Integer.parseInt(d) > most) {
                throw new Fault(at, 1);
            }
            at += d.length();
            return Integer.parseInt(d);
        }

        boolean another() {
            blanks();
            if (at == s.length()) {
                return false;
            }
            if (peek() != ';') {
                throw new Fault(at, 0);
            }
            at++;
            return true;
        }

        State beach() {
            State st = new State();
            int rows = 0;
            boolean swell = false;
            int clauses = 0;
            do {
                blanks();
                int start = at;
                String w = word();
                if (!Arrays.asList("beach", "row", "flag", "wave", "swell").contains(w)) {
                    throw new Fault(start, 0);
                }
                clauses++;
                if (clauses > 40 || w.equals("beach") != (clauses == 1)
                        || w.equals("row") && rows == st.rows
                        || w.equals("flag") && st.flags.size() == 6
                        || w.equals("wave") && st.forces.size() == 12
                        || w.equals("swell") && swell) {
                    throw new Fault(start, 4);
                }
                at += w.length();
                if (w.equals("beach")) {
                    st.columns = number(2, 5);
                    st.rows = number(2, 5);
                    st.heights = new int[st.cells()];
                    Arrays.fill(st.heights, 2);
                    st.wet = new boolean[st.cells()];
                } else if (w.equals("row")) {
                    blanks();
                    String d = digits();
                    if (d.length() != st.columns) {
                        throw new Fault(at + Math.min(d.length(), st.columns), 0);
                    }
                    for (int i = 0; i < d.length(); i++) {
                        st.heights[rows * st.columns + i] = d.charAt(i) - '0';
                    }
                    at += d.length();
                    rows++;
                } else if (w.equals("flag")) {
                    int cell = number(0, st.cells() - 1);
                    int stand = number(1, 20);
                    st.flags.add(new Flag(cell, stand, number(1, 50)));
                } else if (w.equals("wave")) {
                    st.forces.add(number(0, 20));
                } else {
                    swell = true;
                    int a = number(0, 9);
                    int b = number(0, 9);
                    blanks();
                    int third = at;
                    int c = number(0, 9);
                    if (a + b + c == 0) {
                        throw new Fault(third, 1);
                    }
                    st.odds = new int[] {a, b, c};
                }
            } while (another());
            return st;
        }

        Rule rule() {
            Rule r = new Rule();
            do {
                blanks();
                if (!word().equals("take")) {
                    throw new Fault(at, 0);
                }
                if (r.sums.size() == 12) {
                    throw new Fault(at, 4);
                }
                at += 4;
                r.sums.add(sum());
                blanks();
                if (word().equals("if")) {
                    at += 2;
                    r.tests.add(test(0));
                } else {
                    r.tests.add(null);
                }
            } while (another());
            return r;
        }

        Worth test(int depth) {
            Worth all = part(depth);
            blanks();
            while (word().equals("or")) {
                at += 2;
                Worth a = all;
                Worth b = part(depth);
                all = w -> a.of(w) == 1 || b.of(w) == 1 ? 1 : 0;
                blanks();
            }
            return all;
        }

        Worth part(int depth) {
            Worth all = fact(depth);
            blanks();
            while (word().equals("and")) {
                at += 3;
                Worth a = all;
                Worth b = fact(depth);
                all = w -> a.of(w) == 1 && b.of(w) == 1 ? 1 : 0;
                blanks();
            }
            return all;
        }

        Worth fact(int depth) {
            blanks();
            boolean not = word().equals("not");
            if (not || peek() == '[') {
                if (depth == 10) {
                    throw new Fault(at, 2);
                }
                at += not ? 3 : 1;
                if (not) {
                    Worth f = fact(depth + 1);
                    return w -> 1 - f.of(w);
                }
                Worth t = test(depth + 1);
                blanks();
                if (peek() != ']') {
                    throw new Fault(at, 0);
                }
                at++;
                return t;
            }
            Worth a = sum();
            blanks();
            String sign = "";
            for (String one : new String[] {"<=", ">=", "<", "=", ">"}) {
                if (sign.isEmpty() && s.startsWith(one, at)) {
                    sign = one;
                }
            }
            if (sign.isEmpty()) {
                throw new Fault(at, 0);
            }
            part();
            at += sign.length();
            Worth b = sum();
            String by = sign;
            return w -> compare(by, Long.compare(a.of(w), b.of(w))) ? 1 : 0;
        }

        static boolean compare(String sign, int c) {
            return c < 0 && sign.startsWith("<") || c > 0 && sign.startsWith(">")
                    || c == 0 && sign.endsWith("=");
        }

        void part() {
            parts++;
            if (parts > 60) {
                throw new Fault(at, 3);
            }
        }

        Worth sum() {
            Worth all = term();
            blanks();
            while (peek() == '+' || peek() == '-') {
                int way = peek() == '+' ? 1 : -1;
                at++;
                Worth a = all;
                Worth b = term();
                all = w -> a.of(w) + way * b.of(w);
                blanks();
            }
            return all;
        }

        Worth term() {
            Worth all = value();
            blanks();
            while (peek() == '*' || peek() == '/' || peek() == '%') {
                char by = peek();
                at++;
                Worth a = all;
                Worth b = value();
                all = w -> {
                    long x = a.of(w);
                    long y = b.of(w);
                    if (by == '*') {
                        return x * y;
                    }
                    return y == 0 ? 0 : by == '/' ? x / y : x % y;
                };
                blanks();
            }
            return all;
        }

        Worth value() {
            blanks();
            if (!digits().isEmpty()) {
                int start = at;
                long n = number(0, 99999);
                int behind = at;
                at = start;
                part();
                at = behind;
                return w -> n;
            }
            int i = Arrays.asList("cell", "height", "strength", "wet", "force", "wave", "flags",
                    "low", "high").indexOf(word());
            if (i < 0) {
                throw new Fault(at, 0);
            }
            part();
            at += word().length();
            return w -> w[i];
        }
    }

    static final class Scene {
        State begin = new State();
        State now = new State();
        Deque<State> past = new ArrayDeque<>();
        List<int[]> logs = new ArrayList<>();
        int inForce = NONE;
        long x;

        Scene copy() {
            Scene s = new Scene();
            s.begin = begin;
            s.now = now.copy();
            for (State p : past) {
                s.past.addLast(p.copy());
            }
            for (int[] l : logs) {
                s.logs.add(l.clone());
            }
            s.inForce = inForce;
            s.x = x;
            return s;
        }
    }

    String tape = "";
    final List<Rule> rules = new ArrayList<>();
    Scene scene = new Scene();
    final Scene[] images = new Scene[4];

    private Rule law() {
        return scene.inForce == NONE ? null : rules.get(scene.inForce);
    }

    private State now() {
        return scene.now;
    }

    private boolean no() {
        return now().cells() == 0;
    }

    private boolean isCell(int c) {
        return c >= 0 && c < now().cells();
    }

    private boolean isFlag(int f) {
        return f >= 0 && f < now().flags.size();
    }

    private boolean stands(int f) {
        return isFlag(f) && now().flags.get(f).fell == NONE;
    }

    private static boolean in(int x, int least, int most) {
        return x >= least && x <= most;
    }

    private void act() {
        scene.past.addLast(now().copy());
        if (scene.past.size() > 20) {
            scene.past.removeFirst();
        }
    }

    int feed(int... five) {
        if (tape.length() + 20 > 400) {
            return NONE;
        }
        for (int n : five) {
            tape += "" + (char) (n >>> 24) + (char) (n >> 16 & 255) + (char) (n >> 8 & 255)
                    + (char) (n & 255);
        }
        return tape.length();
    }

    int end(int n) {
        if (!in(n, 0, tape.length())) {
            return NONE;
        }
        tape = tape.substring(0, n);
        return n;
    }

    int beach() {
        String t = tape;
        tape = "";
        try {
            State s = new Text(t).beach();
            scene.begin = s;
            scene.now = s.copy();
            scene.past.clear();
            scene.logs.clear();
            return s.cells();
        } catch (Fault f) {
            return -2 - f.number;
        }
    }

    int rule() {
        if (rules.size() == 6) {
            return NONE;
        }
        String t = tape;
        tape = "";
        try {
            rules.add(new Text(t).rule());
            return rules.size() - 1;
        } catch (Fault f) {
            return -2 - f.number;
        }
    }

    int force(int rule) {
        if (!in(rule, NONE, rules.size() - 1)) {
            return -2;
        }
        int was = scene.inForce;
        scene.inForce = rule;
        return was;
    }

    int cell(int c, int what) {
        if (!isCell(c) || !in(what, 0, 3)) {
            return NONE;
        }
        int bits = 0;
        for (int f = 0; f < now().flags.size(); f++) {
            bits |= stands(f) && now().flags.get(f).cell == c ? 1 << f : 0;
        }
        return what == 0 ? now().heights[c] : what == 1 ? (now().wet[c] ? 1 : 0)
                : what == 2 ? bits : now().strengths(now().force(now().wave))[c];
    }

    int flag(int f, int what) {
        if (!isFlag(f) || !in(what, 0, 3)) {
            return -2;
        }
        Flag g = now().flags.get(f);
        return new int[] {g.cell, g.stand, g.mark, g.fell}[what];
    }

    int forceOf(int w) {
        return w < 0 || no() ? NONE : now().force(w);
    }

    int wave() {
        if (no() || now().wave == 999) {
            return NONE;
        }
        act();
        return now().strike(now().force(now().wave), law());
    }

    int spade(int c, int side) {
        if (!isCell(c) || !in(side, 0, 3)) {
            return NONE;
        }
        State was = now().copy();
        if (!now().spade(c, side)) {
            return NONE;
        }
        State is = scene.now;
        scene.now = was;
        act();
        scene.now = is;
        return now().to(c, side);
    }

    int give(int f) {
        if (!stands(f)) {
            return NONE;
        }
        act();
        now().give(f);
        return now().heights[now().flags.get(f).cell];
    }

    int move(int f, int c) {
        if (!stands(f) || !isCell(c) || now().flags.get(f).cell == c) {
            return NONE;
        }
        act();
        int was = now().flags.get(f).cell;
        now().flags.get(f).cell = c;
        return was;
    }

    int undo() {
        if (scene.past.isEmpty()) {
            return -2;
        }
        scene.now = scene.past.removeLast();
        return scene.past.size();
    }

    int way(int c, int k) {
        if (!isCell(c) || k < 0) {
            return NONE;
        }
        List<Integer> way = now().way(c, now().force(now().wave));
        return k < way.size() ? way.get(k) : -2;
    }

    int ahead(int c, int n, int what) {
        if (!isCell(c) || !in(n, 0, 100) || !in(what, 0, 2)) {
            return NONE;
        }
        State s = now().copy();
        s.go(n, law());
        return what == 0 ? s.heights[c] : what == 1 ? s.marks : s.standing();
    }

    int falls(int f) {
        if (!isFlag(f)) {
            return NONE;
        }
        if (!stands(f)) {
            return -3;
        }
        State s = now().copy();
        s.go(60, law());
        return s.flags.get(f).fell == NONE ? -2 : s.flags.get(f).fell;
    }

    private int marksAfter(State s, int n) {
        State t = s.copy();
        t.go(n, law());
        return t.marks;
    }

    int dig(int k, int n, int what) {
        if (no() || !in(k, 1, 2) || !in(n, 1, 6) || !in(what, 0, 3)) {
            return NONE;
        }
        int[] best = {marksAfter(now(), n), 0, -2, -2};
        for (int many = 1; many <= k; many++) {
            for (int a = 0; a < 4 * now().cells(); a++) {
                State s = now().copy();
                if (!s.spade(a / 4, a % 4)) {
                    continue;
                }
                for (int b = 0; b < (many == 2 ? 4 * now().cells() : 1); b++) {
                    State t = s.copy();
                    if (many == 2 && !t.spade(b / 4, b % 4)) {
                        continue;
                    }
                    int marks = marksAfter(t, n);
                    if (marks > best[0]) {
                        best = new int[] {marks, many, a, many == 2 ? b : -2};
                    }
                }
            }
        }
        return best[what];
    }

    int rival(int n, int what) {
        if (no() || !in(n, 1, 6) || !in(what, 0, 1)) {
            return -2;
        }
        int best = -1;
        int first = NONE;
        for (int a = -1; a < 4 * now().cells(); a++) {
            State s = now().copy();
            if (a >= 0 && !s.spade(a / 4, a % 4)) {
                continue;
            }
            int least = marksAfter(s, n);
            for (int b = 0; b < 4 * now().cells(); b++) {
                State t = s.copy();
                if (t.spade(b / 4, b % 4)) {
                    least = Math.min(least, marksAfter(t, n));
                }
            }
            if (least > best) {
                best = least;
                first = a;
            }
        }
        return what == 0 ? best : first;
    }

    private boolean off(int flagCell, int force, int... walled) {
        State s = now().copy();
        for (int c : walled) {
            s.heights[c] = 9;
        }
        return s.strengths(force)[flagCell] == 0;
    }

    int wall(int f, int what) {
        if (!stands(f) || !in(what, 0, 1)) {
            return NONE;
        }
        int own = now().flags.get(f).cell;
        int force = now().force(now().wave);
        int n = now().cells();
        if (off(own, force)) {
            return 0;
        }
        for (int a = 0; a < n; a++) {
            if (a != own && off(own, force, a)) {
                return what == 0 ? 1 : 1 << a;
            }
        }
        for (int a = 0; a < n; a++) {
            for (int b = 0; b < a; b++) {
                if (a != own && b != own && off(own, force, a, b)) {
                    return what == 0 ? 2 : 1 << a | 1 << b;
                }
            }
        }
        for (int a = 0; a < n; a++) {
            for (int b = 0; b < a; b++) {
                for (int c = 0; c < b; c++) {
                    if (a != own && b != own && c != own && off(own, force, a, b, c)) {
                        return what == 0 ? 3 : 1 << a | 1 << b | 1 << c;
                    }
                }
            }
        }
        return -2;
    }

    int high(int f, int c) {
        if (!stands(f) || !isCell(c) || now().flags.get(f).cell == c) {
            return NONE;
        }
        for (int h = now().heights[c]; h <= 9; h++) {
            State s = now().copy();
            s.heights[c] = h;
            if (s.strengths(now().force(now().wave) + 1)[now().flags.get(f).cell] == 0) {
                return h;
            }
        }
        return -2;
    }

    private boolean wouldFall(int f, int force) {
        State s = now().copy();
        s.strike(force, law());
        return s.flags.get(f).fell != NONE;
    }

    int odds(int f, int part) {
        if (!stands(f) || !in(part, 0, 1)) {
            return NONE;
        }
        int up = 0;
        int down = 0;
        for (int i = 0; i < 3; i++) {
            int odds = now().odds[i];
            down += odds;
            up += wouldFall(f, Math.max(0, now().force(now().wave) + i - 1)) ? odds : 0;
        }
        for (int d = down; d > 1; d--) {
            if (up % d == 0 && down % d == 0) {
                up /= d;
                down /= d;
            }
        }
        return part == 0 ? up : down;
    }

    int giveUp(int n, int what) {
        if (no() || !in(n, 1, 60) || !in(what, 0, 1)) {
            return -2;
        }
        int best = marksAfter(now(), n);
        int flag = NONE;
        for (int f = 0; f < now().flags.size(); f++) {
            if (stands(f)) {
                State s = now().copy();
                s.give(f);
                int marks = marksAfter(s, n);
                if (marks > best) {
                    best = marks;
                    flag = f;
                }
            }
        }
        return what == 0 ? flag : best;
    }

    int borne(int f) {
        if (!stands(f)) {
            return -2;
        }
        int force = -1;
        while (force < 40 && !wouldFall(f, force + 1)) {
            force++;
        }
        return force;
    }

    int log(int n, int c, int h) {
        if (n == NONE) {
            scene.logs.clear();
            return 0;
        }
        if (!in(n, 0, 60) || !isCell(c) || !in(h, 0, 9) || scene.logs.size() == 10) {
            return -2;
        }
        scene.logs.add(new int[] {n, c, h});
        return scene.logs.size();
    }

    private List<Integer> agreeing() {
        List<Integer> so = new ArrayList<>();
        for (int r = -1; r < rules.size(); r++) {
            boolean all = true;
            for (int[] l : scene.logs) {
                State s = scene.begin.copy();
                s.go(l[0], r < 0 ? null : rules.get(r));
                all = all && s.heights[l[1]] == l[2];
            }
            if (all) {
                so.add(r);
            }
        }
        return so;
    }

    int ruled(int what) {
        if (no() || !in(what, 0, 1)) {
            return -3;
        }
        List<Integer> so = agreeing();
        return what == 0 ? so.size() : so.isEmpty() ? -2 : so.get(0);
    }

    int look(int n, int what) {
        if (no() || !in(n, 0, 60) || !in(what, 0, 1)) {
            return NONE;
        }
        List<Integer> so = agreeing();
        if (so.isEmpty()) {
            return -2;
        }
        int[][] heights = new int[so.size()][];
        for (int i = 0; i < so.size(); i++) {
            State s = scene.begin.copy();
            s.go(n, so.get(i) < 0 ? null : rules.get(so.get(i)));
            heights[i] = s.heights;
        }
        int cell = -1;
        int fewest = 99;
        for (int c = 0; c < now().cells(); c++) {
            int most = 0;
            for (int[] a : heights) {
                int like = 0;
                for (int[] b : heights) {
                    like += a[c] == b[c] ? 1 : 0;
                }
                most = Math.max(most, like);
            }
            if (most < fewest) {
                fewest = most;
                cell = c;
            }
        }
        return what == 0 ? cell : fewest;
    }

    int seed(int x) {
        if (x < 0) {
            return NONE;
        }
        int was = (int) scene.x;
        scene.x = x;
        return was;
    }

    int tides(int m, int n, int what) {
        if (no() || !in(m, 1, 10) || !in(n, 1, 60) || !in(what, 0, 1)) {
            return NONE;
        }
        long x = scene.x;
        int marks = 0;
        int fell = 0;
        int[] odds = now().odds;
        for (int i = 0; i < m; i++) {
            State s = now().copy();
            for (int j = 0; j < n; j++) {
                x = (x * 1103515245L + 12345L) % 2147483648L;
                long d = x / 65536 % (odds[0] + odds[1] + odds[2]);
                int by = d < odds[0] ? -1 : d < odds[0] + odds[1] ? 0 : 1;
                s.strike(Math.max(0, s.force(s.wave) + by), law());
            }
            marks += s.marks - now().marks;
            fell += Integer.bitCount(now().standing()) - Integer.bitCount(s.standing());
        }
        return what == 0 ? marks : fell;
    }

    int count(int what) {
        int[] all = {now().columns, now().rows, now().flags.size(), now().forces.size(),
            rules.size(), scene.inForce, now().wave, now().marks, now().standing(),
            Arrays.stream(now().heights).sum(), scene.logs.size(), scene.past.size(),
            (int) scene.x, tape.length()};
        return in(what, 0, 13) ? all[what] : NONE;
    }

    int image(int k) {
        if (!in(k, 0, 3)) {
            return NONE;
        }
        images[k] = scene.copy();
        return now().wave;
    }

    int back(int k) {
        if (!in(k, 0, 3) || images[k] == null) {
            return NONE;
        }
        scene = images[k].copy();
        return now().wave;
    }
}
