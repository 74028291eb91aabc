/** Frames of methods; the promises and the words in capitals are those of DOC.md. */
public final class ChainFrames {
    public static final int NONE = -1, BAD = -2, NO = -3, FULL = -4;

    private static final int MOST_CLASSES = 16;
    private static final int MOST_METHODS = 6;
    private static final int MOST_OPS = 40;
    private static final int MOST_GUARDS = 6;
    private static final int LOCALS = 8;
    private static final int PILE = 8;

    // A FRAME can only climb some 20 steps in each of its 16 places, so 40 of
    // them are gone through some 12,000 times at the most.
    private static final int MOST_PASSES = 1000000;

    private static final int ROOT = 0;
    private static final int RAISED = 1;

    private static final int NOTHING = 0;
    private static final int INT = 1;
    private static final int LONG = 2;
    private static final int HALF = 3;
    private static final int NULL = 4;
    private static final int INT_ROW = 5;
    private static final int THING = 10;
    private static final int ROW = 40;
    private static final int UNMADE = 100;

    private static final int LAY_INT = 0;
    private static final int LAY_LONG = 1;
    private static final int LOAD_INT = 2;
    private static final int STORE_INT = 3;
    private static final int LOAD_LONG = 4;
    private static final int STORE_LONG = 5;
    private static final int LOAD_REFERENCE = 6;
    private static final int STORE_REFERENCE = 7;
    private static final int ADD_INTS = 8;
    private static final int ADD_LONGS = 9;
    private static final int WIDEN = 10;
    private static final int BRANCH = 11;
    private static final int JUMP = 12;
    private static final int NEW = 13;
    private static final int LAY_TOP = 14;
    private static final int MAKE = 15;
    private static final int CALL = 16;
    private static final int LAY_NULL = 17;
    private static final int CONVERT = 18;
    private static final int NEW_ROW = 19;
    private static final int LOAD_ELEMENT = 20;
    private static final int STORE_ELEMENT = 21;
    private static final int RAISE = 22;
    private static final int RETURN = 23;
    private static final int DROP = 24;
    private static final int DROP_LONG = 25;

    private static final int RIGHT = 0;
    private static final int TOO_HIGH = 1;
    private static final int TOO_FEW = 2;
    private static final int WRONG_ON_PILE = 3;
    private static final int WRONG_IN_LOCAL = 4;
    private static final int BEHIND_LAST = 5;
    private static final int NO_SUCH_PLACE = 6;
    private static final int UNMADE_GOES_BACK = 7;
    private static final int UNLIKE_FRAMES = 8;

    private final Classes classes;
    private final Kinds kinds;
    private final Worker worker;
    private final Forms forms;
    private final Method[] methods;
    private int methodCount;

    public ChainFrames() {
        classes = new Classes();
        kinds = new Kinds(classes);
        worker = new Worker(kinds);
        forms = new Forms();
        methods = new Method[MOST_METHODS];
        methodCount = 0;
    }

    public int cls(int parent) {
        if (parent != NONE && (!classes.has(parent) || classes.isFace(parent))) {
            return BAD;
        }
        return classes.isFull() ? FULL : classes.add(parent);
    }

    public int fits(int c, int d) {
        if (!classes.has(c) || !classes.has(d)) {
            return BAD;
        }
        return classes.suits(c, d) ? 1 : 0;
    }

    public int join(int k, int l) {
        if (!kinds.isKnown(k) || !kinds.isKnown(l)) {
            return BAD;
        }
        return kinds.merge(k, l);
    }

    public int method(int result) {
        if (!kinds.isResult(result)) {
            return BAD;
        }
        if (methodCount >= MOST_METHODS) {
            return FULL;
        }
        methods[methodCount] = new Method(result);
        methodCount++;
        return methodCount - 1;
    }

    public int argument(int method, int kind) {
        Method m = find(method);
        if (m == null || !kinds.isArgument(kind)) {
            return BAD;
        }
        return m.addArgument(kind);
    }

    public int op(int method, int op, int a, int b) {
        Method m = find(method);
        if (m == null || !isOp(op, a, b)) {
            return BAD;
        }
        return m.addOp(op, a, b);
    }

    public int guard(int method, int from, int to, int handler, int cls) {
        Method m = find(method);
        if (m == null || from < 0 || from >= to || to > MOST_OPS) {
            return BAD;
        }
        if (handler < 0 || handler >= MOST_OPS || !classes.has(cls)) {
            return BAD;
        }
        return m.addGuard(from, to, handler, cls);
    }

    public int compute(int method) {
        Method m = find(method);
        if (m == null) {
            return BAD;
        }
        if (m.opCount == 0) {
            return NO;
        }
        worker.run(m);
        return m.work.rule;
    }

    public int told(int method, int what) {
        Method m = find(method);
        if (m == null || what < 0 || what > 3) {
            return BAD;
        }
        if (!m.work.isDone) {
            return NO;
        }
        switch (what) {
            case 0:
                return m.work.brokenAt;
            case 1:
                return m.work.passes;
            case 2:
                return m.work.highest;
            default:
                return m.wantedLocals();
        }
    }

    public int frame(int method, int place, int k) {
        Method m = find(method);
        if (m == null || !m.hasPlace(place) || k < 0 || k >= LOCALS + PILE) {
            return BAD;
        }
        if (!m.work.isDone) {
            return NO;
        }
        return m.work.frames[place].slot(k);
    }

    public int height(int method, int place) {
        Method m = find(method);
        if (m == null || !m.hasPlace(place)) {
            return BAD;
        }
        if (!m.work.isDone) {
            return NO;
        }
        return m.work.frames[place].depth;
    }

    public int form(int method, int place) {
        Method m = find(method);
        if (m == null || !m.hasPlace(place)) {
            return BAD;
        }
        if (!m.work.isDone || m.work.rule != RIGHT) {
            return NO;
        }
        return forms.formAt(m, place);
    }

    public int count(int what, int k) {
        if (what == 0) {
            return classes.size;
        }
        if (what == 1) {
            return methodCount;
        }
        Method m = find(k);
        if (m == null || what < 2 || what > 3) {
            return BAD;
        }
        return what == 2 ? m.opCount : m.guardCount;
    }

    private Method find(int number) {
        return number >= 0 && number < methodCount ? methods[number] : null;
    }

    private boolean isOp(int op, int a, int b) {
        switch (op) {
            case LOAD_INT:
            case STORE_INT:
            case LOAD_REFERENCE:
            case STORE_REFERENCE:
                return a >= 0 && a < LOCALS;
            case LOAD_LONG:
            case STORE_LONG:
                return a >= 0 && a < LOCALS - 1;
            case BRANCH:
            case JUMP:
                return a >= 0;
            case NEW:
            case MAKE:
            case CONVERT:
                return classes.has(a);
            case CALL:
                return classes.has(a) && kinds.isResult(b);
            case NEW_ROW:
                return a == NONE || classes.has(a);
            default:
                return op >= LAY_INT && op <= DROP_LONG;
        }
    }

    /** CLASSES. */
    private static final class Classes {
        // Bit d of above[c]: c is d, or is below it, or d is ROOT. A parent's
        // number is less than its child's, so the highest bit that two CLASSES
        // share is the nearest one that both are below.
        private final int[] above = new int[MOST_CLASSES];
        private final boolean[] faces = new boolean[MOST_CLASSES];
        private int size;

        Classes() {
            above[ROOT] = 1 << ROOT;
            above[RAISED] = 1 << RAISED | 1 << ROOT;
            size = 2;
        }

        boolean has(int c) {
            return c >= 0 && c < size;
        }

        boolean isFull() {
            return size >= MOST_CLASSES;
        }

        boolean isFace(int c) {
            return has(c) && faces[c];
        }

        /** The caller has looked at parent, and at isFull(). */
        int add(int parent) {
            int higher = has(parent) ? above[parent] : 1 << ROOT;
            above[size] = 1 << size | higher;
            faces[size] = parent == NONE;
            size++;
            return size - 1;
        }

        boolean suits(int c, int d) {
            if (c < 0 || c >= size || d < 0 || d >= size) {
                return false;
            }
            return faces[d] || (above[c] >> d & 1) == 1;
        }

        int nearest(int c, int d) {
            if (c < 0 || c >= size || d < 0 || d >= size) {
                return ROOT;
            }
            int shared = above[c] & above[d];
            for (int e = size - 1; e > ROOT; e--) {
                if ((shared >> e & 1) == 1) {
                    return e;
                }
            }
            return ROOT;
        }
    }

    /** KINDS of values. */
    private static final class Kinds {
        private final Classes classes;

        Kinds(Classes classes) {
            this.classes = classes;
        }

        static boolean isThing(int k) {
            return k >= THING && k < ROW;
        }

        static boolean isThingRow(int k) {
            return k >= ROW && k < UNMADE;
        }

        static boolean isUnmade(int k) {
            return k >= UNMADE;
        }

        static boolean isReference(int k) {
            return k == NULL || k == INT_ROW || k >= THING && k < UNMADE;
        }

        private boolean isOfClass(int k) {
            return isThing(k) && classes.has(k - THING) || isThingRow(k) && classes.has(k - ROW);
        }

        boolean isKnown(int k) {
            return k >= NOTHING && k <= INT_ROW || isOfClass(k) || k >= UNMADE && k < UNMADE + MOST_OPS;
        }

        boolean isArgument(int k) {
            return k == INT || k == LONG || k == INT_ROW || isOfClass(k);
        }

        boolean isResult(int k) {
            return k == NOTHING || isArgument(k);
        }

        boolean suits(int k, int l) {
            if (k == l) {
                return true;
            }
            if (k == NULL) {
                return isReference(l);
            }
            if (isThing(k) && isThing(l)) {
                return classes.suits(k - THING, l - THING);
            }
            if (isThingRow(k) && isThingRow(l)) {
                return classes.suits(k - ROW, l - ROW);
            }
            return (k == INT_ROW || isThingRow(k)) && l == THING;
        }

        int merge(int k, int l) {
            if (k == l) {
                return k;
            }
            if (!isReference(k) || !isReference(l)) {
                return NOTHING;
            }
            if (k == NULL) {
                return l;
            }
            if (l == NULL) {
                return k;
            }
            if (isThing(k) && isThing(l)) {
                return THING + classes.nearest(k - THING, l - THING);
            }
            if (isThingRow(k) && isThingRow(l)) {
                return ROW + classes.nearest(k - ROW, l - ROW);
            }
            return THING;
        }
    }

    /** LOCALS and PILE at a place. */
    private static final class Frame {
        private final int[] locals = new int[LOCALS];
        private final int[] pile = new int[PILE];
        // NONE: there is no FRAME.
        private int depth = NONE;

        boolean isThere() {
            return depth >= 0;
        }

        void copyFrom(Frame other) {
            System.arraycopy(other.locals, 0, locals, 0, LOCALS);
            System.arraycopy(other.pile, 0, pile, 0, PILE);
            depth = other.depth;
        }

        /** LOCALS as told, and an empty PILE. */
        void startWith(int[] row) {
            System.arraycopy(row, 0, locals, 0, LOCALS);
            depth = 0;
        }

        /** What a handler is met by: LOCALS without UNMADES, and one value on the PILE. */
        void becomeRaised(Frame here, int kind) {
            for (int i = 0; i < LOCALS; i++) {
                locals[i] = Kinds.isUnmade(here.locals[i]) ? NOTHING : here.locals[i];
            }
            pile[0] = kind;
            depth = 1;
        }

        int slot(int k) {
            if (!isThere() || k < 0 || k >= LOCALS + depth) {
                return NONE;
            }
            return k < LOCALS ? locals[k] : pile[k - LOCALS];
        }

        int top() {
            return depth > 0 ? pile[depth - 1] : NOTHING;
        }

        boolean hasLongOnTop() {
            return depth > 1 && pile[depth - 1] == HALF && pile[depth - 2] == LONG;
        }

        boolean hasLongAt(int i) {
            return i >= 0 && i + 1 < LOCALS && locals[i] == LONG && locals[i + 1] == HALF;
        }

        boolean holdsUnmade() {
            for (int i = 0; i < LOCALS; i++) {
                if (Kinds.isUnmade(locals[i])) {
                    return true;
                }
            }
            for (int i = 0; i < depth; i++) {
                if (Kinds.isUnmade(pile[i])) {
                    return true;
                }
            }
            return false;
        }

        void replace(int old, int kind) {
            for (int i = 0; i < LOCALS; i++) {
                locals[i] = locals[i] == old ? kind : locals[i];
            }
            for (int i = 0; i < depth; i++) {
                pile[i] = pile[i] == old ? kind : pile[i];
            }
        }

        /** A LONG that loses a half leaves nothing in the other one. */
        void breakLong(int i) {
            if (hasLongAt(i)) {
                locals[i + 1] = NOTHING;
            } else if (hasLongAt(i - 1)) {
                locals[i - 1] = NOTHING;
            }
        }
    }

    /** A METHOD as it was told. */
    private static final class Method {
        private final int result;
        private final int[] beginning = new int[LOCALS];
        private int argumentLocals;
        private final int[] ops = new int[MOST_OPS];
        private final int[] as = new int[MOST_OPS];
        private final int[] bs = new int[MOST_OPS];
        private int opCount;
        private final int[] froms = new int[MOST_GUARDS];
        private final int[] tos = new int[MOST_GUARDS];
        private final int[] handlers = new int[MOST_GUARDS];
        private final int[] raised = new int[MOST_GUARDS];
        private int guardCount;
        private final Work work = new Work();

        Method(int result) {
            this.result = result;
        }

        int addArgument(int kind) {
            int after = argumentLocals + (kind == LONG ? 2 : 1);
            if (after > LOCALS) {
                return FULL;
            }
            beginning[argumentLocals] = kind;
            if (kind == LONG) {
                beginning[argumentLocals + 1] = HALF;
            }
            argumentLocals = after;
            work.isDone = false;
            return after;
        }

        int addOp(int op, int a, int b) {
            if (opCount >= MOST_OPS) {
                return FULL;
            }
            ops[opCount] = op;
            as[opCount] = a;
            bs[opCount] = b;
            opCount++;
            work.isDone = false;
            return opCount - 1;
        }

        int addGuard(int from, int to, int handler, int cls) {
            if (guardCount >= MOST_GUARDS) {
                return FULL;
            }
            froms[guardCount] = from;
            tos[guardCount] = to;
            handlers[guardCount] = handler;
            raised[guardCount] = cls;
            guardCount++;
            work.isDone = false;
            return guardCount - 1;
        }

        boolean hasPlace(int place) {
            return place >= 0 && place < opCount;
        }

        boolean isGuarded(int place, int guard) {
            return place >= froms[guard] && place < tos[guard];
        }

        boolean isJump(int place) {
            return ops[place] == BRANCH || ops[place] == JUMP;
        }

        /** The CLASS of the NEW that laid this KIND; NONE, if it is no UNMADE. */
        int classOfUnmade(int kind) {
            int place = kind - UNMADE;
            return Kinds.isUnmade(kind) && hasPlace(place) && ops[place] == NEW ? as[place] : NONE;
        }

        int wantedLocals() {
            int wanted = argumentLocals;
            for (int place = 0; place < opCount; place++) {
                if (work.frames[place].isThere()) {
                    wanted = Math.max(wanted, localsOfOp(place));
                }
            }
            return wanted;
        }

        private int localsOfOp(int place) {
            int op = ops[place];
            if (op < LOAD_INT || op > STORE_REFERENCE) {
                return 0;
            }
            return as[place] + (op == LOAD_LONG || op == STORE_LONG ? 2 : 1);
        }
    }

    /** What THE WORK on a METHOD found. */
    private static final class Work {
        private final Frame[] frames = new Frame[MOST_OPS];
        private final boolean[] waiting = new boolean[MOST_OPS];
        private boolean isDone;
        private int rule;
        private int brokenAt;
        private int passes;
        private int highest;

        Work() {
            for (int place = 0; place < MOST_OPS; place++) {
                frames[place] = new Frame();
            }
        }

        void startWith(int[] locals) {
            for (int place = 0; place < MOST_OPS; place++) {
                frames[place].depth = NONE;
                waiting[place] = false;
            }
            frames[0].startWith(locals);
            waiting[0] = true;
            isDone = true;
            rule = RIGHT;
            brokenAt = NONE;
            passes = 0;
            highest = 0;
        }

        int leastWaiting() {
            for (int place = 0; place < MOST_OPS; place++) {
                if (waiting[place]) {
                    return place;
                }
            }
            return NONE;
        }

        void breakAt(int place, int number) {
            brokenAt = place;
            rule = number;
        }

        void note(int depth) {
            highest = Math.max(highest, depth);
        }
    }

    /** One OP, done on a copy of a FRAME; the first RULE that it breaks makes the rest of it idle. */
    private static final class Step {
        private final Kinds kinds;
        private final Frame frame = new Frame();
        private int rule;

        Step(Kinds kinds) {
            this.kinds = kinds;
        }

        int perform(Method m, int place) {
            frame.copyFrom(m.work.frames[place]);
            rule = RIGHT;
            int op = m.ops[place];
            if (op >= LOAD_INT && op <= STORE_REFERENCE) {
                useLocal(op, m.as[place]);
            } else if (op == NEW || op >= MAKE && op <= STORE_ELEMENT) {
                useThing(m, place);
            } else {
                useValue(op, m.result);
            }
            return rule;
        }

        private void useLocal(int op, int a) {
            switch (op) {
                case LOAD_INT:
                    expectInLocal(frame.locals[a] == INT);
                    lay(INT);
                    break;
                case STORE_INT:
                    take(INT);
                    put(a, INT);
                    break;
                case LOAD_LONG:
                    expectInLocal(frame.hasLongAt(a));
                    lay(LONG);
                    break;
                case STORE_LONG:
                    take(LONG);
                    putLong(a);
                    break;
                case LOAD_REFERENCE:
                    expectInLocal(isReferenceOrUnmade(frame.locals[a]));
                    lay(frame.locals[a]);
                    break;
                default:
                    int top = takeAny();
                    expect(isReferenceOrUnmade(top));
                    put(a, top);
                    break;
            }
        }

        private void useValue(int op, int result) {
            switch (op) {
                case LAY_INT:
                    lay(INT);
                    break;
                case LAY_LONG:
                    lay(LONG);
                    break;
                case ADD_INTS:
                    take(INT);
                    take(INT);
                    lay(INT);
                    break;
                case ADD_LONGS:
                    take(LONG);
                    take(LONG);
                    lay(LONG);
                    break;
                case WIDEN:
                    take(INT);
                    lay(LONG);
                    break;
                case BRANCH:
                    take(INT);
                    break;
                case LAY_TOP:
                    layTop();
                    break;
                case RAISE:
                    take(THING + RAISED);
                    break;
                case RETURN:
                    take(result);
                    break;
                case DROP:
                    expect(takeAny() != HALF);
                    break;
                case DROP_LONG:
                    take(LONG);
                    break;
                default:
                    break;
            }
        }

        private void useThing(Method m, int place) {
            int a = m.as[place];
            switch (m.ops[place]) {
                case NEW:
                    lay(UNMADE + place);
                    break;
                case MAKE:
                    make(m, a);
                    break;
                case CALL:
                    take(THING + a);
                    lay(m.bs[place]);
                    break;
                case LAY_NULL:
                    lay(NULL);
                    break;
                case CONVERT:
                    expect(Kinds.isReference(takeAny()));
                    lay(THING + a);
                    break;
                case NEW_ROW:
                    take(INT);
                    lay(a == NONE ? INT_ROW : ROW + a);
                    break;
                case LOAD_ELEMENT:
                    loadElement();
                    break;
                default:
                    storeElement();
                    break;
            }
        }

        private void layTop() {
            int top = takeAny();
            expect(top != HALF);
            lay(top);
            lay(top);
        }

        private void make(Method m, int cls) {
            int top = takeAny();
            expect(m.classOfUnmade(top) == cls);
            if (rule == RIGHT) {
                frame.replace(top, THING + cls);
            }
        }

        private void loadElement() {
            take(INT);
            int row = takeAny();
            if (row == INT_ROW) {
                lay(INT);
            } else if (Kinds.isThingRow(row)) {
                lay(THING + row - ROW);
            } else {
                expect(row == NULL);
                lay(NULL);
            }
        }

        private void storeElement() {
            int value = takeAny();
            expect(value == INT || Kinds.isReference(value));
            take(INT);
            int row = takeAny();
            expect(row == NULL || (value == INT ? row == INT_ROW : Kinds.isThingRow(row)));
        }

        private static boolean isReferenceOrUnmade(int kind) {
            return Kinds.isReference(kind) || Kinds.isUnmade(kind);
        }

        private void breakRule(int number) {
            rule = rule == RIGHT ? number : rule;
        }

        private void expect(boolean isRight) {
            if (!isRight) {
                breakRule(WRONG_ON_PILE);
            }
        }

        private void expectInLocal(boolean isRight) {
            if (!isRight) {
                breakRule(WRONG_IN_LOCAL);
            }
        }

        /** One place of the PILE, whatever lies there. */
        private int takeAny() {
            if (frame.depth < 1) {
                breakRule(TOO_FEW);
            }
            if (rule != RIGHT) {
                return NOTHING;
            }
            int top = frame.top();
            frame.depth--;
            return top;
        }

        private void take(int kind) {
            if (kind == LONG) {
                takeLong();
            } else if (kind != NOTHING) {
                int top = takeAny();
                expect(kinds.suits(top, kind));
            }
        }

        private void takeLong() {
            if (frame.depth < 2) {
                breakRule(TOO_FEW);
            }
            if (!frame.hasLongOnTop()) {
                breakRule(WRONG_ON_PILE);
            }
            if (rule == RIGHT) {
                frame.depth -= 2;
            }
        }

        private void lay(int kind) {
            if (kind == NOTHING) {
                return;
            }
            int after = frame.depth + (kind == LONG ? 2 : 1);
            if (after > PILE) {
                breakRule(TOO_HIGH);
            }
            if (rule != RIGHT) {
                return;
            }
            frame.pile[frame.depth] = kind;
            if (kind == LONG) {
                frame.pile[frame.depth + 1] = HALF;
            }
            frame.depth = after;
        }

        private void put(int i, int kind) {
            if (rule == RIGHT) {
                frame.breakLong(i);
                frame.locals[i] = kind;
            }
        }

        private void putLong(int i) {
            put(i, LONG);
            put(i + 1, HALF);
        }
    }

    /** THE WORK. */
    private static final class Worker {
        private final Kinds kinds;
        private final Step step;
        private final Frame raisedFrame = new Frame();

        Worker(Kinds kinds) {
            this.kinds = kinds;
            step = new Step(kinds);
        }

        void run(Method m) {
            Work work = m.work;
            work.startWith(m.beginning);
            for (int pass = 0; pass < MOST_PASSES; pass++) {
                int place = work.leastWaiting();
                if (place == NONE) {
                    return;
                }
                // Before the rest, for a place may meet itself.
                work.waiting[place] = false;
                work.passes++;
                int rule = meetHandlers(m, place);
                if (rule == RIGHT) {
                    rule = step.perform(m, place);
                }
                if (rule == RIGHT) {
                    work.note(step.frame.depth);
                    rule = goOn(m, place);
                }
                if (rule != RIGHT) {
                    work.breakAt(place, rule);
                    return;
                }
            }
        }

        private int meetHandlers(Method m, int place) {
            for (int g = 0; g < m.guardCount; g++) {
                if (!m.isGuarded(place, g)) {
                    continue;
                }
                if (!m.hasPlace(m.handlers[g])) {
                    return NO_SUCH_PLACE;
                }
                raisedFrame.becomeRaised(m.work.frames[place], THING + m.raised[g]);
                if (!meet(m.work, m.handlers[g], raisedFrame)) {
                    return UNLIKE_FRAMES;
                }
            }
            return RIGHT;
        }

        private int goOn(Method m, int place) {
            int op = m.ops[place];
            if (op == RAISE || op == RETURN) {
                return RIGHT;
            }
            if (m.isJump(place)) {
                int rule = jumpRule(m, place);
                if (rule != RIGHT) {
                    return rule;
                }
                if (!meet(m.work, m.as[place], step.frame)) {
                    return UNLIKE_FRAMES;
                }
            }
            if (op == JUMP) {
                return RIGHT;
            }
            if (!m.hasPlace(place + 1)) {
                return BEHIND_LAST;
            }
            return meet(m.work, place + 1, step.frame) ? RIGHT : UNLIKE_FRAMES;
        }

        private int jumpRule(Method m, int place) {
            int target = m.as[place];
            if (!m.hasPlace(target)) {
                return NO_SUCH_PLACE;
            }
            return target <= place && step.frame.holdsUnmade() ? UNMADE_GOES_BACK : RIGHT;
        }

        /** False: RULE 8, and the place is as it was. */
        private boolean meet(Work work, int place, Frame that) {
            Frame there = work.frames[place];
            if (!there.isThere()) {
                there.copyFrom(that);
                work.note(that.depth);
                work.waiting[place] = true;
                return true;
            }
            if (!canMeet(there, that)) {
                return false;
            }
            boolean pileChanged = mergeRow(there.pile, that.pile, there.depth);
            boolean localsChanged = mergeRow(there.locals, that.locals, LOCALS);
            if (pileChanged || localsChanged) {
                work.waiting[place] = true;
            }
            return true;
        }

        private boolean canMeet(Frame there, Frame that) {
            if (there.depth != that.depth) {
                return false;
            }
            for (int i = 0; i < there.depth; i++) {
                if (kinds.merge(there.pile[i], that.pile[i]) == NOTHING) {
                    return false;
                }
            }
            return true;
        }

        /**
         * Halves of a LONG are looked at like others: the JOIN is 2 or 3 only where both FRAMES have
         * it, and then both have its other half too, so that no half is ever left alone.
         */
        private boolean mergeRow(int[] there, int[] that, int length) {
            boolean changed = false;
            for (int i = 0; i < length; i++) {
                int kind = kinds.merge(there[i], that[i]);
                changed = changed || kind != there[i];
                there[i] = kind;
            }
            return changed;
        }
    }

    /** FORMS of the TOLD places of a METHOD whose THE WORK is right. */
    private static final class Forms {
        private static final int SAME = 0;
        private static final int SAME_AND_ONE = 1;
        private static final int LESS = 1;
        private static final int MORE = 4;
        private static final int ELSE = 8;
        private static final int MOST_UNLIKE = 3;

        private final boolean[] isTold = new boolean[MOST_OPS];
        private final int[] oldRow = new int[LOCALS];
        private final int[] newRow = new int[LOCALS];

        int formAt(Method m, int place) {
            markTold(m);
            if (!isTold[place]) {
                return NONE;
            }
            Frame here = m.work.frames[place];
            int before = toldBefore(place);
            int[] oldLocals = before == NONE ? m.beginning : m.work.frames[before].locals;
            int oldLength = writeRow(oldLocals, oldRow);
            int newLength = writeRow(here.locals, newRow);
            if (!isAlike(Math.min(oldLength, newLength))) {
                return ELSE;
            }
            return formOf(here, newLength - oldLength);
        }

        private void markTold(Method m) {
            for (int place = 0; place < MOST_OPS; place++) {
                isTold[place] = false;
            }
            for (int place = 0; place < m.opCount; place++) {
                if (!m.work.frames[place].isThere()) {
                    continue;
                }
                if (m.isJump(place)) {
                    mark(m.as[place]);
                }
                for (int g = 0; g < m.guardCount; g++) {
                    if (m.isGuarded(place, g)) {
                        mark(m.handlers[g]);
                    }
                }
            }
        }

        private void mark(int place) {
            if (place >= 0 && place < MOST_OPS) {
                isTold[place] = true;
            }
        }

        private int toldBefore(int place) {
            for (int before = place - 1; before >= 0; before--) {
                if (isTold[before]) {
                    return before;
                }
            }
            return NONE;
        }

        /** How many values the row has. */
        private static int writeRow(int[] locals, int[] row) {
            int values = 0;
            int length = 0;
            for (int i = 0; i < LOCALS; i++) {
                if (locals[i] == HALF) {
                    continue;
                }
                row[values] = locals[i];
                values++;
                if (locals[i] != NOTHING) {
                    length = values;
                }
            }
            return length;
        }

        private boolean isAlike(int length) {
            for (int i = 0; i < length; i++) {
                if (oldRow[i] != newRow[i]) {
                    return false;
                }
            }
            return true;
        }

        private static int formOf(Frame here, int more) {
            if (more == 0 && (here.depth == 1 || here.depth == 2 && here.hasLongOnTop())) {
                return SAME_AND_ONE;
            }
            if (here.depth != 0 || more > MOST_UNLIKE || more < -MOST_UNLIKE) {
                return ELSE;
            }
            if (more == 0) {
                return SAME;
            }
            return more > 0 ? MORE + more : LESS - more;
        }
    }
}
