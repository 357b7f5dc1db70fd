/**
 * Effects are values; fibers do them, step by step, on one worker. What every
 * call promises stands in the document, ../shared/DOC.md; the words used here
 * (frame, closer, turn, masked ...) are that document's.
 */
public final class FiberDesk {
    public static final int REFUSED = -1, FULL = -2;
    public static final int RUNNING = 0, DONE = 1, STUCK = 2;

    private static final int MOST_EFFECTS = 40, MOST_FIBERS = 10, MOST_FRAMES = 16;
    private static final int MOST_CLOSERS = 4, MOST_CAUSE_PARTS = 9, MOST_PRINTED = 24;
    private static final int PLACES = 4, MOST_RUN_STEPS = 20, TURN_STEPS = 5, LONGEST_SLEEP = 1000;

    private static final int GIVE = 0, INPUT = 1, FAIL = 2, DIE = 3, THEN = 4, FOLD = 5, ENSURE = 6;
    private static final int BRACKET = 7, MASK = 8, RESTORE = 9, SCOPE = 10, CLOSE = 11, FORK = 12;
    private static final int JOIN = 13, HALT = 14, RACE = 15, SLEEP = 16, YIELD = 17, PRINT = 18;
    private static final int GET = 19, SET = 20, AWAIT = 21, KEEP = 22, TAKE = 23, LEAVE = 24, PICK = 25;

    /** How many of X, Y and Z an effect of each kind has. */
    private static final int[] PARTS = {
        0, 0, 0, 0, 2, 3, 2, 3, 1, 1, 1, 1, 1, 0, 0, 2, 0, 0, 0, 0, 0, 0, 0, 0, 0, 2
    };

    private static final int CAUSE_FAIL = 1, CAUSE_DIE = 2, CAUSE_INTERRUPT = 3, CAUSE_THEN = 4, CAUSE_BOTH = 5;

    private static final int DIE_NO_ROOM = -1, DIE_NO_FIBER = -2, DIE_NO_SCOPE = -3, DIE_TOO_DEEP = -4;

    private static final int STATE_READY = 0, STATE_WAITS = 1, STATE_VALUE = 2, STATE_CAUSE = 3;

    private static final int FOR_NOTHING = 0, FOR_JOIN = 1, FOR_HALT = 2, FOR_RACE = 3;
    private static final int FOR_SLEEP = 4, FOR_AWAIT = 5, FOR_TAKE = 6;

    private static final int NO_INTERRUPT = 0, PENDING = 1, DELIVERED = 2;

    /** The number that stands for no fiber: as a parent, at work, or interrupting from outside. */
    private static final int NOBODY = -1;

    private final Effect[] effects = new Effect[MOST_EFFECTS];
    private int effectCount = 0;

    private final Fiber[] fibers = new Fiber[MOST_FIBERS];
    /** 0 as long as nothing is started: a start always makes fiber 0. */
    private int fiberCount = 0;
    private final Line queue = new Line();
    private final Place[] places = new Place[PLACES];
    /** The first ints put out; putOut counts those that were not kept too. */
    private final int[] prints = new int[MOST_PRINTED];
    private int putOut = 0;

    private int clock = 0;
    private int steps = 0;
    private int turns = 0;
    /** The fiber whose turn is not over, or null. */
    private Fiber atWork = null;
    private int turnStepsLeft = 0;

    public FiberDesk() {
        for (int n = 0; n < PLACES; n++) {
            places[n] = new Place();
        }
    }

    public int effect(int kind, int a, int b, int c) {
        if (!isWellFormed(kind, a, b, c)) {
            return REFUSED;
        }
        if (effectCount >= MOST_EFFECTS) {
            return FULL;
        }
        int number = effectCount;
        // What this kind does not have may be null or any effect: it is never looked at.
        effects[number] = new Effect(kind, a, effectAt(a), effectAt(b), effectAt(c));
        effectCount++;
        return number;
    }

    public boolean start(int e, int v) {
        Effect first = effectAt(e);
        if (first == null) {
            return false;
        }
        clearAll();
        makeFiber(first, v, NOBODY);
        return true;
    }

    public int run(int n) {
        if (n < 1 || n > MOST_RUN_STEPS || fiberCount == 0) {
            return REFUSED;
        }
        for (int i = 0; i < n && hasTurn(); i++) {
            work();
        }
        return standing();
    }

    public boolean interrupt(int f) {
        Fiber it = fiberAt(f);
        if (it == null || it.ended) {
            return false;
        }
        sendInterrupt(it, NOBODY);
        return true;
    }

    public boolean keep(int n, int v) {
        Place place = placeAt(n);
        return fiberCount > 0 && place != null && keepPromise(place, v);
    }

    public int fiber(int f, int what) {
        Fiber it = fiberAt(f);
        if (it == null) {
            return REFUSED;
        }
        switch (what) {
            case 0: return it.state();
            case 1: return it.masked ? 1 : 0;
            case 2: return it.depth;
            case 3: return it.interrupted;
            case 4: return it.parent;
            case 5: return it.state() == STATE_VALUE ? it.value : 0;
            case 6: return it.steps;
            case 7: return it.waitsFor;
            default: return REFUSED;
        }
    }

    public int cause(int f, int k, int what) {
        Fiber it = fiberAt(f);
        if (it == null || !it.ended || it.cause == null || k < 0 || k >= it.cause.kinds.length) {
            return REFUSED;
        }
        switch (what) {
            case 0: return it.cause.kinds[k];
            case 1: return it.cause.numbers[k];
            default: return REFUSED;
        }
    }

    public int queued(int k) {
        return k >= 0 && k < queue.size ? queue.at(k) : REFUSED;
    }

    public int printed(int k) {
        return k >= 0 && k < putOut && k < MOST_PRINTED ? prints[k] : 0;
    }

    public int cell(int n, int what) {
        Place place = placeAt(n);
        if (place == null || fiberCount == 0) {
            return REFUSED;
        }
        switch (what) {
            case 0: return place.cell;
            case 1: return place.isKept ? 1 : 0;
            case 2: return place.promised;
            case 3: return place.permits;
            case 4: return place.awaiting.size;
            case 5: return place.taking.size;
            default: return REFUSED;
        }
    }

    public int count(int what) {
        switch (what) {
            case 0: return effectCount;
            case 1: return fiberCount;
            case 2: return clock;
            case 3: return steps;
            case 4: return putOut;
            case 5: return turns;
            case 6: return atWork == null ? NOBODY : atWork.number;
            case 7: return fiberCount == 0 ? REFUSED : standing();
            default: return REFUSED;
        }
    }

    // ---- looking up ----

    private boolean isWellFormed(int kind, int a, int b, int c) {
        if (kind < 0 || kind >= PARTS.length) {
            return false;
        }
        int parts = PARTS[kind];
        return (parts < 1 || effectAt(a) != null)
            && (parts < 2 || effectAt(b) != null)
            && (parts < 3 || effectAt(c) != null)
            && (!isAtPlace(kind) || placeAt(a) != null);
    }

    /** GET, SET, AWAIT, KEEP, TAKE and LEAVE, whose n is the number of a place. */
    private static boolean isAtPlace(int kind) {
        return kind >= GET && kind <= LEAVE;
    }

    private Effect effectAt(int e) {
        return e >= 0 && e < effectCount ? effects[e] : null;
    }

    private Fiber fiberAt(int f) {
        return f >= 0 && f < fiberCount ? fibers[f] : null;
    }

    private Place placeAt(int n) {
        return n >= 0 && n < PLACES ? places[n] : null;
    }

    private int standing() {
        int answer = DONE;
        for (int i = 0; i < fiberCount; i++) {
            Fiber it = fiberAt(i);
            if (it == null || it.ended) {
                continue;
            }
            if (it.waitsFor == FOR_NOTHING || it.waitsFor == FOR_SLEEP) {
                return RUNNING;
            }
            answer = STUCK;
        }
        return answer;
    }

    // ---- the worker ----

    private void clearAll() {
        for (int n = 0; n < PLACES; n++) {
            Place place = placeAt(n);
            if (place != null) {
                place.clear();
            }
        }
        fiberCount = 0;
        queue.clear();
        putOut = 0;
        clock = 0;
        steps = 0;
        turns = 0;
        atWork = null;
    }

    /** Whether some fiber is at work; if none is, the next turn begins here. */
    private boolean hasTurn() {
        if (atWork != null) {
            return true;
        }
        if (queue.size == 0) {
            wakeSleepers();
        }
        if (queue.size == 0) {
            return false;
        }
        atWork = fiberAt(queue.takeFirst());
        turnStepsLeft = TURN_STEPS;
        turns++;
        return atWork != null;
    }

    /** One step of the fiber at work, and the end of its turn if that is due. */
    private void work() {
        Fiber it = atWork;
        if (it == null) {
            return;
        }
        turnStepsLeft--;
        steps++;
        it.steps++;
        if (it.interrupted == PENDING && !it.masked) {
            it.interrupted = DELIVERED;
            it.giveCause(new Cause(CAUSE_INTERRUPT, it.interrupter));
        } else if (it.todo != null) {
            begin(it, it.todo, it.input);
        } else if (it.top != null) {
            it.comeTo(it.top);
        } else {
            end(it);
        }
        if (it.state() != STATE_READY) {
            atWork = null;
        } else if (turnStepsLeft <= 0) {
            atWork = null;
            queue.add(it.number);
        }
    }

    private void wakeSleepers() {
        boolean found = false;
        int least = 0;
        for (int i = 0; i < fiberCount; i++) {
            Fiber it = fiberAt(i);
            if (it != null && it.waitsFor == FOR_SLEEP && (!found || it.wakesAt < least)) {
                found = true;
                least = it.wakesAt;
            }
        }
        if (!found) {
            return;
        }
        clock = least;
        for (int i = 0; i < fiberCount; i++) {
            Fiber it = fiberAt(i);
            if (it != null && it.waitsFor == FOR_SLEEP && it.wakesAt == least) {
                goOn(it);
            }
        }
    }

    /** A fiber that waited is ready again; what it returns has been set already. */
    private void goOn(Fiber it) {
        it.waitsFor = FOR_NOTHING;
        queue.add(it.number);
    }

    // ---- beginning an effect ----

    private void begin(Fiber it, Effect e, int v) {
        switch (e.kind) {
            case GIVE:
                it.giveValue(e.n);
                break;
            case INPUT:
                it.giveValue(v + e.n);
                break;
            case FAIL:
                it.giveCause(new Cause(CAUSE_FAIL, e.n));
                break;
            case DIE:
                it.die(e.n);
                break;
            case CLOSE:
                it.register(e.x, v);
                break;
            case FORK:
                beginFork(it, e, v);
                break;
            case JOIN:
                beginJoin(it, v);
                break;
            case HALT:
                beginHalt(it, v);
                break;
            case RACE:
                beginRace(it, e, v);
                break;
            case SLEEP:
                beginSleep(it, e.n, v);
                break;
            case YIELD:
                it.giveValue(v);
                turnStepsLeft = 0;
                break;
            case PRINT:
                it.giveValue(v);
                put(v);
                break;
            case PICK:
                it.perform(v != 0 ? e.x : e.y, v);
                break;
            default:
                if (isAtPlace(e.kind)) {
                    beginAtPlace(it, e, v);
                } else {
                    it.beginFramed(e, v);
                }
                break;
        }
    }

    private void put(int v) {
        if (putOut < MOST_PRINTED) {
            prints[putOut] = v;
        }
        putOut++;
    }

    private void beginFork(Fiber it, Effect e, int v) {
        if (fiberCount >= MOST_FIBERS) {
            it.die(DIE_NO_ROOM);
            return;
        }
        it.giveValue(fiberCount);
        makeFiber(e.x, v, it.number);
    }

    private void makeFiber(Effect e, int v, int parent) {
        if (fiberCount >= MOST_FIBERS) {
            return;
        }
        int number = fiberCount;
        Fiber made = new Fiber(number, parent);
        made.perform(e, v);
        fibers[number] = made;
        fiberCount++;
        queue.add(number);
    }

    private void beginJoin(Fiber it, int v) {
        Fiber other = fiberAt(v);
        if (other == null) {
            it.die(DIE_NO_FIBER);
        } else if (other.ended) {
            it.giveExit(other.value, other.cause);
        } else {
            it.waitFor(FOR_JOIN, v);
        }
    }

    private void beginHalt(Fiber it, int v) {
        Fiber other = fiberAt(v);
        if (other == null) {
            it.die(DIE_NO_FIBER);
            return;
        }
        it.giveValue(0);
        sendInterrupt(other, it.number);
        if (!other.ended && other != it) {
            it.waitFor(FOR_HALT, v);
        }
    }

    private void beginRace(Fiber it, Effect e, int v) {
        if (fiberCount + 2 > MOST_FIBERS) {
            it.die(DIE_NO_ROOM);
            return;
        }
        it.waitFor(FOR_RACE, fiberCount);
        makeFiber(e.x, v, it.number);
        makeFiber(e.y, v, it.number);
    }

    private void beginSleep(Fiber it, int n, int v) {
        it.giveValue(v);
        if (n >= 1) {
            it.wakesAt = clock + Math.min(n, LONGEST_SLEEP);
            it.waitFor(FOR_SLEEP, NOBODY);
        }
    }

    private void beginAtPlace(Fiber it, Effect e, int v) {
        Place place = placeAt(e.n);
        if (place == null) {
            return;
        }
        it.giveValue(v);
        switch (e.kind) {
            case GET:
                it.giveValue(place.cell);
                break;
            case SET:
                place.cell = v;
                break;
            case AWAIT:
                beginAwait(it, place, e.n);
                break;
            case KEEP:
                it.giveValue(keepPromise(place, v) ? 1 : 0);
                break;
            case TAKE:
                beginTake(it, place, e.n);
                break;
            default:
                leaveGate(place);
                break;
        }
    }

    private void beginAwait(Fiber it, Place place, int n) {
        if (place.isKept) {
            it.giveValue(place.promised);
            return;
        }
        it.waitFor(FOR_AWAIT, n);
        place.awaiting.add(it.number);
    }

    private void beginTake(Fiber it, Place place, int n) {
        if (place.permits > 0) {
            place.permits--;
            return;
        }
        it.waitFor(FOR_TAKE, n);
        place.taking.add(it.number);
    }

    private void leaveGate(Place place) {
        Fiber first = fiberAt(place.taking.takeFirst());
        if (first == null) {
            place.permits++;
        } else {
            goOn(first);
        }
    }

    /** Answers whether the promise was not kept before. */
    private boolean keepPromise(Place place, int v) {
        if (place.isKept) {
            return false;
        }
        place.isKept = true;
        place.promised = v;
        for (int i = 0; i < place.awaiting.size; i++) {
            Fiber waiter = fiberAt(place.awaiting.at(i));
            if (waiter != null) {
                waiter.giveValue(v);
                goOn(waiter);
            }
        }
        place.awaiting.clear();
        return true;
    }

    // ---- interrupting and ending ----

    private void sendInterrupt(Fiber it, int by) {
        if (it.ended || it.interrupted != NO_INTERRUPT) {
            return;
        }
        it.interrupted = PENDING;
        it.interrupter = by;
        if (it.waitsFor != FOR_NOTHING && !it.masked) {
            leaveLine(it);
            goOn(it);
        }
    }

    private void leaveLine(Fiber it) {
        Place place = placeAt(it.waitsOn);
        if (place == null) {
            return;
        }
        if (it.waitsFor == FOR_AWAIT) {
            place.awaiting.remove(it.number);
        } else if (it.waitsFor == FOR_TAKE) {
            place.taking.remove(it.number);
        }
    }

    private void end(Fiber it) {
        it.ended = true;
        for (int i = 0; i < fiberCount; i++) {
            Fiber waiter = fiberAt(i);
            if (waiter != null && waiter.waitsFor == FOR_RACE) {
                tellRace(waiter, it);
            } else if (waiter != null && waiter.waitsOn == it.number) {
                tellEnd(waiter, it);
            }
        }
        for (int i = 0; i < fiberCount; i++) {
            Fiber child = fiberAt(i);
            if (child != null && child.parent == it.number) {
                sendInterrupt(child, it.number);
            }
        }
    }

    private void tellEnd(Fiber waiter, Fiber ended) {
        if (waiter.waitsFor == FOR_JOIN) {
            waiter.giveExit(ended.value, ended.cause);
            goOn(waiter);
        } else if (waiter.waitsFor == FOR_HALT) {
            goOn(waiter);
        }
    }

    /** The two fibers of a race bear numbers that follow each other, X's being the one kept. */
    private void tellRace(Fiber waiter, Fiber ended) {
        Fiber x = fiberAt(waiter.waitsOn);
        Fiber y = fiberAt(waiter.waitsOn + 1);
        if (x == null || y == null || ended != x && ended != y) {
            return;
        }
        Fiber other = ended == x ? y : x;
        if (other.ended) {
            // The other one has ended before this one, so a value of it comes first.
            giveRaceExit(waiter, x, y, other.cause == null ? other : ended);
            goOn(waiter);
        } else if (ended.cause == null) {
            sendInterrupt(other, waiter.number);
        }
    }

    private void giveRaceExit(Fiber waiter, Fiber x, Fiber y, Fiber winner) {
        if (winner.cause == null) {
            waiter.giveValue(winner.value);
        } else if (x.cause != null && y.cause != null) {
            waiter.giveCause(joined(CAUSE_BOTH, x.cause, y.cause));
        }
    }

    private static Cause joined(int kind, Cause first, Cause second) {
        int parts = 1 + first.kinds.length + second.kinds.length;
        return parts > MOST_CAUSE_PARTS ? first : new Cause(kind, first, second);
    }

    // ---- what the desk is made of ----

    private static final class Effect {
        final int kind;
        final int n;
        final Effect x;
        final Effect y;
        final Effect z;

        Effect(int kind, int n, Effect x, Effect y, Effect z) {
            this.kind = kind;
            this.n = n;
            this.x = x;
            this.y = y;
            this.z = z;
        }
    }

    /** A cause as a row, prefix; never changed once made, so it may be shared. */
    private static final class Cause {
        final int[] kinds;
        final int[] numbers;

        Cause(int kind, int number) {
            kinds = new int[1];
            numbers = new int[1];
            kinds[0] = kind;
            numbers[0] = number;
        }

        Cause(int kind, Cause first, Cause second) {
            int a = first.kinds.length;
            int b = second.kinds.length;
            kinds = new int[1 + a + b];
            numbers = new int[1 + a + b];
            kinds[0] = kind;
            System.arraycopy(first.kinds, 0, kinds, 1, a);
            System.arraycopy(first.numbers, 0, numbers, 1, a);
            System.arraycopy(second.kinds, 0, kinds, 1 + a, b);
            System.arraycopy(second.numbers, 0, numbers, 1 + a, b);
        }

        boolean isFailAlone() {
            return kinds.length == 1 && kinds[0] == CAUSE_FAIL;
        }
    }

    private static final class Closer {
        final Effect effect;
        final int input;
        final Closer earlier;

        Closer(Effect effect, int input, Closer earlier) {
            this.effect = effect;
            this.input = input;
            this.earlier = earlier;
        }
    }

    private static final class Frame {
        final Effect effect;
        final boolean maskedBefore;
        final Frame below;
        /** What is still to be closed, the latest first. */
        Closer closers = null;
        int held = 0;
        boolean closing = false;
        /** The exit with which it closes: cause, or value if that is null. */
        int value = 0;
        Cause cause = null;

        Frame(Effect effect, boolean maskedBefore, Frame below) {
            this.effect = effect;
            this.maskedBefore = maskedBefore;
            this.below = below;
        }

        void hold(Effect closer, int input) {
            closers = new Closer(closer, input, closers);
            held++;
        }
    }

    private static final class Fiber {
        final int number;
        final int parent;
        /** The effect to be done with input; null while an exit is returned. */
        Effect todo = null;
        int input = 0;
        /** The exit that is returned, or was at the end: cause, or value if that is null. */
        int value = 0;
        Cause cause = null;
        boolean ended = false;
        Frame top = null;
        int depth = 0;
        boolean masked = false;
        int interrupted = NO_INTERRUPT;
        int interrupter = NOBODY;
        int steps = 0;
        int waitsFor = FOR_NOTHING;
        /** The fiber (of a race the first one), promise or gate for which it waits. */
        int waitsOn = NOBODY;
        int wakesAt = 0;

        Fiber(int number, int parent) {
            this.number = number;
            this.parent = parent;
        }

        int state() {
            if (ended) {
                return cause == null ? STATE_VALUE : STATE_CAUSE;
            }
            return waitsFor == FOR_NOTHING ? STATE_READY : STATE_WAITS;
        }

        void perform(Effect e, int v) {
            todo = e;
            input = v;
        }

        void giveExit(int v, Cause c) {
            todo = null;
            value = v;
            cause = c;
        }

        void giveValue(int v) {
            giveExit(v, null);
        }

        void giveCause(Cause c) {
            giveExit(0, c);
        }

        void die(int n) {
            giveCause(new Cause(CAUSE_DIE, n));
        }

        void waitFor(int what, int on) {
            todo = null;
            waitsFor = what;
            waitsOn = on;
        }

        /** THEN, FOLD, ENSURE, BRACKET, MASK, RESTORE and SCOPE: X under a frame. */
        void beginFramed(Effect e, int v) {
            if (depth >= MOST_FRAMES) {
                die(DIE_TOO_DEEP);
                return;
            }
            boolean before = masked;
            if (e.kind == MASK || e.kind == BRACKET) {
                masked = true;
            } else if (e.kind == RESTORE) {
                masked = maskedOutsideMask();
            }
            top = new Frame(e, before, top);
            depth++;
            if (e.kind == ENSURE) {
                top.hold(e.y, v);
            }
            perform(e.x, v);
        }

        boolean maskedOutsideMask() {
            for (Frame frame = top; frame != null; frame = frame.below) {
                if (frame.effect.kind == MASK) {
                    return frame.maskedBefore;
                }
            }
            return masked;
        }

        void register(Effect closer, int v) {
            Frame scope = openScope();
            if (scope == null || scope.held >= MOST_CLOSERS) {
                die(DIE_NO_SCOPE);
                return;
            }
            scope.hold(closer, v);
            giveValue(v);
        }

        Frame openScope() {
            for (Frame frame = top; frame != null; frame = frame.below) {
                if (frame.effect.kind == SCOPE && !frame.closing) {
                    return frame;
                }
            }
            return null;
        }

        /** The exit that is returned comes to the latest frame. */
        void comeTo(Frame frame) {
            Effect e = frame.effect;
            switch (e.kind) {
                case THEN:
                case FOLD:
                    drop(frame);
                    follow(e);
                    break;
                case MASK:
                case RESTORE:
                    masked = frame.maskedBefore;
                    drop(frame);
                    break;
                case BRACKET:
                    if (frame.held == 0 && cause == null) {
                        masked = frame.maskedBefore;
                        frame.hold(e.z, value);
                        perform(e.y, value);
                    } else {
                        close(frame);
                    }
                    break;
                default:
                    close(frame);
                    break;
            }
        }

        void follow(Effect e) {
            if (cause == null) {
                perform(e.y, value);
            } else if (e.kind == FOLD && cause.isFailAlone()) {
                perform(e.z, cause.numbers[0]);
            }
        }

        /** Called with the exit that is to be kept, and again with that of each closer. */
        void close(Frame frame) {
            if (!frame.closing) {
                frame.closing = true;
                frame.value = value;
                frame.cause = cause;
            } else if (cause != null) {
                frame.cause = frame.cause == null ? cause : joined(CAUSE_THEN, frame.cause, cause);
            }
            Closer next = frame.closers;
            if (next != null) {
                frame.closers = next.earlier;
                masked = true;
                perform(next.effect, next.input);
                return;
            }
            masked = frame.maskedBefore;
            drop(frame);
            giveExit(frame.value, frame.cause);
        }

        void drop(Frame frame) {
            top = frame.below;
            depth--;
        }
    }

    /** What bears one number of 0..3: a cell, a promise and a gate. */
    private static final class Place {
        int cell = 0;
        boolean isKept = false;
        int promised = 0;
        int permits = 1;
        final Line awaiting = new Line();
        final Line taking = new Line();

        void clear() {
            cell = 0;
            isKept = false;
            promised = 0;
            permits = 1;
            awaiting.clear();
            taking.clear();
        }
    }

    /** Numbers of fibers, the first one first; a fiber stands at most once in a line. */
    private static final class Line {
        final int[] numbers = new int[MOST_FIBERS];
        int size = 0;

        void clear() {
            size = 0;
        }

        void add(int number) {
            if (size < MOST_FIBERS) {
                numbers[size] = number;
                size++;
            }
        }

        int at(int k) {
            return k >= 0 && k < size ? numbers[k] : NOBODY;
        }

        /** Answers NOBODY if the line is empty. */
        int takeFirst() {
            int first = at(0);
            remove(first);
            return first;
        }

        void remove(int number) {
            int left = 0;
            for (int i = 0; i < size; i++) {
                if (numbers[i] != number) {
                    numbers[left] = numbers[i];
                    left++;
                }
            }
            size = left;
        }
    }
}
