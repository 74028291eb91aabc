import java.util.ArrayList;
import java.util.Arrays;
import java.util.List;
import java.util.TreeMap;
import java.util.TreeSet;
import java.util.function.IntPredicate;

/** The document once more, written apart from the program and with the library, to compare the two. */
final class Model {
    static final int NONE = -1, BAD = -2, NO = -3, FULL = -4;
    private static final int FACE = -9;

    /** The first RULE that is broken. */
    private static final class Broken extends RuntimeException {
        private static final long serialVersionUID = 1L;
        final int rule;

        Broken(int rule) {
            super("rule " + rule, null, false, false);
            this.rule = rule;
        }
    }

    /** LOCALS and PILE. */
    static final class State {
        final List<Integer> locals = new ArrayList<>();
        final List<Integer> pile = new ArrayList<>();

        State copy() {
            State s = new State();
            s.locals.addAll(locals);
            s.pile.addAll(pile);
            return s;
        }

        boolean sameAs(State o) {
            return locals.equals(o.locals) && pile.equals(o.pile);
        }
    }

    private static final class Code {
        int result;
        final List<Integer> arguments = new ArrayList<>();
        final List<int[]> ops = new ArrayList<>();
        final List<int[]> guards = new ArrayList<>();
        TreeMap<Integer, State> frames;
        int rule, place, passes, most;
    }

    private final List<Integer> parents = new ArrayList<>(List.of(NONE, 0));
    private final List<Code> codes = new ArrayList<>();

    private boolean isClass(int c) {
        return c >= 0 && c < parents.size();
    }

    private boolean isFace(int c) {
        return parents.get(c) == FACE;
    }

    /** c and all it is below, the nearest first. */
    private List<Integer> upFrom(int c) {
        List<Integer> up = new ArrayList<>();
        for (int d = c; d >= 0; d = parents.get(d)) {
            up.add(d);
        }
        return up;
    }

    private boolean classFits(int c, int d) {
        return isFace(d) || upFrom(c).contains(d) || isFace(c) && d == 0;
    }

    private int classJoin(int c, int d) {
        if (c == d) {
            return c;
        }
        if (isFace(c) || isFace(d)) {
            return 0;
        }
        List<Integer> up = upFrom(c);
        up.retainAll(upFrom(d));
        return up.get(0);
    }

    private static boolean between(int k, int low, int high) {
        return low <= k && k <= high;
    }

    private static boolean reference(int k) {
        return k == 4 || k == 5 || between(k, 10, 99);
    }

    private boolean kindFits(int k, int l) {
        boolean things = between(k, 10, 39) && between(l, 10, 39);
        boolean rows = between(k, 40, 99) && between(l, 40, 99);
        return k == l || k == 4 && reference(l) || things && classFits(k - 10, l - 10)
            || rows && classFits(k - 40, l - 40) || (k == 5 || between(k, 40, 99)) && l == 10;
    }

    private int kindJoin(int k, int l) {
        if (k == l) {
            return k;
        }
        if (k == 4 && reference(l) || l == 4 && reference(k)) {
            return k + l - 4;
        }
        if (between(k, 10, 39) && between(l, 10, 39)) {
            return 10 + classJoin(k - 10, l - 10);
        }
        if (between(k, 40, 99) && between(l, 40, 99)) {
            return 40 + classJoin(k - 40, l - 40);
        }
        return reference(k) && reference(l) ? 10 : 0;
    }

    private boolean argumentKind(int k) {
        return k == 1 || k == 2 || k == 5 || between(k, 10, 39) && isClass(k - 10) || between(k, 40, 99) && isClass(k - 40);
    }

    int cls(int parent) {
        if (parent != NONE && (!isClass(parent) || isFace(parent))) {
            return BAD;
        }
        if (parents.size() == 16) {
            return FULL;
        }
        parents.add(parent == NONE ? FACE : parent);
        return parents.size() - 1;
    }

    int fits(int c, int d) {
        return !isClass(c) || !isClass(d) ? BAD : classFits(c, d) ? 1 : 0;
    }

    private boolean joinable(int k) {
        return between(k, 0, 5) || argumentKind(k) || between(k, 100, 139);
    }

    int join(int k, int l) {
        return joinable(k) && joinable(l) ? kindJoin(k, l) : BAD;
    }

    int method(int result) {
        if (result != 0 && !argumentKind(result)) {
            return BAD;
        }
        if (codes.size() == 6) {
            return FULL;
        }
        Code c = new Code();
        c.result = result;
        codes.add(c);
        return codes.size() - 1;
    }

    private Code code(int m) {
        return between(m, 0, codes.size() - 1) ? codes.get(m) : null;
    }

    int argument(int m, int kind) {
        Code c = code(m);
        if (c == null || !argumentKind(kind)) {
            return BAD;
        }
        List<Integer> more = kind == 2 ? List.of(2, 3) : List.of(kind);
        if (c.arguments.size() + more.size() > 8) {
            return FULL;
        }
        c.arguments.addAll(more);
        c.frames = null;
        return c.arguments.size();
    }

    int op(int m, int op, int a, int b) {
        Code c = code(m);
        if (c == null || !between(op, 0, 25) || !opNumbersRight(op, a, b)) {
            return BAD;
        }
        if (c.ops.size() == 40) {
            return FULL;
        }
        c.ops.add(new int[] {op, a, b});
        c.frames = null;
        return c.ops.size() - 1;
    }

    private boolean opNumbersRight(int op, int a, int b) {
        if (List.of(2, 3, 6, 7).contains(op)) {
            return between(a, 0, 7);
        }
        if (List.of(4, 5).contains(op)) {
            return between(a, 0, 6);
        }
        if (List.of(11, 12).contains(op)) {
            return a >= 0;
        }
        if (op == 16 && b != 0 && !argumentKind(b)) {
            return false;
        }
        if (List.of(13, 15, 16, 18).contains(op)) {
            return isClass(a);
        }
        return op != 19 || a == NONE || isClass(a);
    }

    int guard(int m, int from, int to, int handler, int cls) {
        Code c = code(m);
        if (c == null || from < 0 || from >= to || to > 40 || !between(handler, 0, 39) || !isClass(cls)) {
            return BAD;
        }
        if (c.guards.size() == 6) {
            return FULL;
        }
        c.guards.add(new int[] {from, to, handler, cls});
        c.frames = null;
        return c.guards.size() - 1;
    }

    int compute(int m) {
        Code c = code(m);
        if (c == null) {
            return BAD;
        }
        if (c.ops.isEmpty()) {
            return NO;
        }
        c.frames = new TreeMap<>();
        c.frames.put(0, beginning(c));
        c.rule = 0;
        c.place = NONE;
        c.passes = 0;
        c.most = 0;
        TreeSet<Integer> looks = new TreeSet<>(List.of(0));
        while (!looks.isEmpty() && c.rule == 0) {
            int place = looks.pollFirst();
            c.passes++;
            try {
                goThrough(c, place, looks);
            } catch (Broken broken) {
                c.rule = broken.rule;
                c.place = place;
            }
        }
        for (State s : c.frames.values()) {
            c.most = Math.max(c.most, s.pile.size());
        }
        return c.rule;
    }

    private static State beginning(Code c) {
        State s = new State();
        s.locals.addAll(c.arguments);
        while (s.locals.size() < 8) {
            s.locals.add(0);
        }
        return s;
    }

    private void goThrough(Code c, int place, TreeSet<Integer> looks) {
        for (int[] g : c.guards) {
            if (place >= g[0] && place < g[1]) {
                State raised = c.frames.get(place).copy();
                raised.locals.replaceAll(k -> k >= 100 ? 0 : k);
                raised.pile.clear();
                raised.pile.add(10 + g[3]);
                unless(g[2] < c.ops.size(), 6);
                meet(c, g[2], raised, looks);
            }
        }
        State s = c.frames.get(place).copy();
        doOp(c, place, s);
        c.most = Math.max(c.most, s.pile.size());
        int[] op = c.ops.get(place);
        if (op[0] == 11 || op[0] == 12) {
            unless(op[1] < c.ops.size(), 6);
            boolean unmade = s.locals.stream().anyMatch(k -> k >= 100) || s.pile.stream().anyMatch(k -> k >= 100);
            unless(op[1] > place || !unmade, 7);
            meet(c, op[1], s, looks);
        }
        if (op[0] != 12 && op[0] != 22 && op[0] != 23) {
            unless(place + 1 < c.ops.size(), 5);
            meet(c, place + 1, s, looks);
        }
    }

    private void meet(Code c, int place, State that, TreeSet<Integer> looks) {
        State old = c.frames.get(place);
        State now = that.copy();
        if (old != null) {
            unless(old.pile.size() == that.pile.size(), 8);
            now.pile.replaceAll(k -> k);
            for (int i = 0; i < 8; i++) {
                now.locals.set(i, kindJoin(old.locals.get(i), that.locals.get(i)));
            }
            for (int i = 0; i < old.pile.size(); i++) {
                now.pile.set(i, kindJoin(old.pile.get(i), that.pile.get(i)));
                unless(now.pile.get(i) != 0, 8);
            }
        }
        if (old == null || !old.sameAs(now)) {
            looks.add(place);
        }
        c.frames.put(place, now);
    }

    private static void unless(boolean right, int rule) {
        if (!right) {
            throw new Broken(rule);
        }
    }

    private static int takeOne(State s, IntPredicate right) {
        unless(!s.pile.isEmpty(), 2);
        int top = s.pile.remove(s.pile.size() - 1);
        unless(right.test(top), 3);
        return top;
    }

    private void take(State s, int... kinds) {
        for (int kind : kinds) {
            if (kind == 2) {
                int n = s.pile.size();
                unless(n >= 2, 2);
                unless(s.pile.subList(n - 2, n).equals(List.of(2, 3)), 3);
                s.pile.subList(n - 2, n).clear();
            } else if (kind != 0) {
                takeOne(s, k -> kindFits(k, kind));
            }
        }
    }

    private static void lay(State s, int kind) {
        if (kind != 0) {
            s.pile.addAll(kind == 2 ? List.of(2, 3) : List.of(kind));
        }
        unless(s.pile.size() <= 8, 1);
    }

    private static void put(State s, int at, int... kinds) {
        int[] before = s.locals.stream().mapToInt(k -> k).toArray();
        for (int i = at; i < at + kinds.length; i++) {
            if (before[i] == 2) {
                s.locals.set(i + 1, 0);
            }
            if (before[i] == 3) {
                s.locals.set(i - 1, 0);
            }
        }
        for (int i = 0; i < kinds.length; i++) {
            s.locals.set(at + i, kinds[i]);
        }
    }

    private static boolean movable(int k) {
        return reference(k) || k >= 100;
    }

    private void doOp(Code c, int place, State s) {
        int op = c.ops.get(place)[0];
        int a = c.ops.get(place)[1];
        int b = c.ops.get(place)[2];
        int local = between(op, 2, 7) ? s.locals.get(a) : 0;
        int[] plainTakes = {};
        int lays = 0;
        switch (op) {
            case 0 -> lays = 1;
            case 1 -> lays = 2;
            case 2 -> {
                unless(local == 1, 4);
                lays = 1;
            }
            case 3 -> {
                take(s, 1);
                put(s, a, 1);
            }
            case 4 -> {
                unless(local == 2 && s.locals.get(a + 1) == 3, 4);
                lays = 2;
            }
            case 5 -> {
                take(s, 2);
                put(s, a, 2, 3);
            }
            case 6 -> {
                unless(movable(local), 4);
                lays = local;
            }
            case 7 -> put(s, a, takeOne(s, Model::movable));
            case 8 -> {
                plainTakes = new int[] {1, 1};
                lays = 1;
            }
            case 9 -> {
                plainTakes = new int[] {2, 2};
                lays = 2;
            }
            case 10 -> {
                plainTakes = new int[] {1};
                lays = 2;
            }
            case 11 -> plainTakes = new int[] {1};
            case 13 -> lays = 100 + place;
            case 14 -> {
                unless(!s.pile.isEmpty(), 2);
                lays = s.pile.get(s.pile.size() - 1);
                unless(lays != 3, 3);
            }
            case 15 -> {
                int unmade = takeOne(s, k -> k >= 100 && c.ops.get(k - 100)[1] == a);
                s.locals.replaceAll(k -> k == unmade ? 10 + a : k);
                s.pile.replaceAll(k -> k == unmade ? 10 + a : k);
            }
            case 16 -> {
                plainTakes = new int[] {10 + a};
                lays = b;
            }
            case 17 -> lays = 4;
            case 18 -> {
                takeOne(s, Model::reference);
                lays = 10 + a;
            }
            case 19 -> {
                plainTakes = new int[] {1};
                lays = a == NONE ? 5 : 40 + a;
            }
            case 20 -> {
                take(s, 1);
                int row = takeOne(s, k -> k == 4 || k == 5 || between(k, 40, 99));
                lays = row == 4 ? 4 : row == 5 ? 1 : row - 30;
            }
            case 21 -> {
                int value = takeOne(s, k -> k == 1 || reference(k));
                take(s, 1);
                takeOne(s, k -> k == 4 || (value == 1 ? k == 5 : between(k, 40, 99)));
            }
            case 22 -> plainTakes = new int[] {11};
            case 23 -> plainTakes = new int[] {c.result};
            case 24 -> takeOne(s, k -> k != 3);
            case 25 -> plainTakes = new int[] {2};
            default -> lays = 0;
        }
        take(s, plainTakes);
        lay(s, lays);
    }

    int told(int m, int what) {
        Code c = code(m);
        if (c == null || !between(what, 0, 3)) {
            return BAD;
        }
        if (c.frames == null) {
            return NO;
        }
        int wanted = c.arguments.size();
        for (int place : c.frames.keySet()) {
            int[] op = c.ops.get(place);
            if (between(op[0], 2, 7)) {
                wanted = Math.max(wanted, op[1] + (op[0] == 4 || op[0] == 5 ? 2 : 1));
            }
        }
        return new int[] {c.place, c.passes, c.most, wanted}[what];
    }

    private int refusal(int m, int place) {
        Code c = code(m);
        return c == null || !between(place, 0, c.ops.size() - 1) ? BAD : c.frames == null ? NO : 0;
    }

    int frame(int m, int place, int k) {
        if (refusal(m, place) == BAD || !between(k, 0, 15)) {
            return BAD;
        }
        if (refusal(m, place) == NO) {
            return NO;
        }
        State s = code(m).frames.get(place);
        if (s == null || k - 8 >= s.pile.size()) {
            return NONE;
        }
        return k < 8 ? s.locals.get(k) : s.pile.get(k - 8);
    }

    int height(int m, int place) {
        if (refusal(m, place) != 0) {
            return refusal(m, place);
        }
        State s = code(m).frames.get(place);
        return s == null ? NONE : s.pile.size();
    }

    private static List<Integer> row(List<Integer> kinds) {
        List<Integer> values = new ArrayList<>(kinds);
        values.removeIf(k -> k == 3);
        while (!values.isEmpty() && values.get(values.size() - 1) == 0) {
            values.remove(values.size() - 1);
        }
        return values;
    }

    int form(int m, int place) {
        if (refusal(m, place) != 0) {
            return refusal(m, place);
        }
        Code c = code(m);
        if (c.rule != 0) {
            return NO;
        }
        TreeSet<Integer> told = new TreeSet<>();
        for (int p : c.frames.keySet()) {
            if (c.ops.get(p)[0] == 11 || c.ops.get(p)[0] == 12) {
                told.add(c.ops.get(p)[1]);
            }
            c.guards.stream().filter(g -> p >= g[0] && p < g[1]).forEach(g -> told.add(g[2]));
        }
        if (!told.contains(place)) {
            return NONE;
        }
        Integer before = told.lower(place);
        List<Integer> old = row((before == null ? beginning(c) : c.frames.get(before)).locals);
        List<Integer> now = row(c.frames.get(place).locals);
        List<Integer> pile = c.frames.get(place).pile;
        if (old.equals(now) && !pile.isEmpty()) {
            return pile.stream().filter(k -> k != 3).count() == 1 ? 1 : 8;
        }
        int[] forms = {4, 3, 2, 0, 5, 6, 7};
        int more = now.size() - old.size();
        int same = Math.min(old.size(), now.size());
        boolean alike = old.subList(0, same).equals(now.subList(0, same));
        return pile.isEmpty() && alike && between(more, -3, 3) ? forms[more + 3] : 8;
    }

    int count(int what, int k) {
        return switch (what) {
            case 0 -> parents.size();
            case 1 -> codes.size();
            case 2 -> code(k) == null ? BAD : code(k).ops.size();
            case 3 -> code(k) == null ? BAD : code(k).guards.size();
            default -> BAD;
        };
    }

    /** What an OP more would make of a FRAME: null, if it breaks a RULE (1 to 4), or is BAD. */
    State after(int m, State s, int[] op) {
        Code c = code(m);
        if (c == null || !opNumbersRight(op[0], op[1], op[2])) {
            return null;
        }
        State copy = s.copy();
        c.ops.add(op);
        try {
            doOp(c, c.ops.size() - 1, copy);
            return copy;
        } catch (Broken broken) {
            return null;
        } finally {
            c.ops.remove(c.ops.size() - 1);
        }
    }

    State beginningOf(int m) {
        return beginning(codes.get(m));
    }

    @Override
    public String toString() {
        StringBuilder text = new StringBuilder("classes " + parents);
        for (Code c : codes) {
            text.append("\nmethod ").append(c.result).append(c.arguments);
            c.ops.forEach(o -> text.append(' ').append(Arrays.toString(o)));
            c.guards.forEach(g -> text.append(" guard ").append(Arrays.toString(g)));
        }
        return text.toString();
    }
}
