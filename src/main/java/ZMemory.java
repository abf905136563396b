import java.util.Arrays;

/**
 * A story machine's memory and what works on it. The numbered promises are in DOC.md.
 *
 * Inside, an answer of 0 and more is a byte, a WORD or DONE; a FAULT travels as the answer that
 * the face gives for it (FAILED less its number), so every answer below 0 is passed on as it is.
 */
public final class ZMemory {
    public static final int NONE = -1, BAD = -2, FULL = -3;

    private static final int DONE = 1;

    private static final int FAILED = -10;
    private static final int BY_ZERO = FAILED - 1;
    private static final int OUTSIDE = FAILED - 2;
    private static final int STATIC = FAILED - 3;
    private static final int STACK_EMPTY = FAILED - 4;
    private static final int STACK_FULL = FAILED - 5;
    private static final int DEEP = FAILED - 6;
    private static final int NO_LOCAL = FAILED - 7;
    private static final int NO_FRAME = FAILED - 8;
    private static final int NO_ROUTINE = FAILED - 9;
    private static final int NO_INSTRUCTION = FAILED - 10;
    private static final int PAGE_FULL = FAILED - 11;

    private static final int MOST_BYTES = 2000;
    private static final int MOST_TAPE = 50;
    private static final int MOST_INSTRUCTIONS = 100;
    private static final int MOST_ROUTINES = 8;
    private static final int MOST_LOCALS = 15;
    private static final int MOST_FRAMES = 12;
    private static final int MOST_STACK = 100;
    private static final int MOST_PRINTED = 120;
    private static final int MOST_STEPS = 300;
    private static final int MOST_MISHAPS = 12;

    private static final int HIGHEST_BYTE = 255;
    private static final int HIGHEST_WORD = 65535;
    private static final int HIGHEST_VARIABLE = 255;
    private static final int FIRST_GLOBAL = 16;
    private static final int NO_ONE = -1;
    private static final int FORM_AT_FIRST = 130;

    private static final int ADD = 0;
    private static final int SUBTRACT = 1;
    private static final int MULTIPLY = 2;
    private static final int DIVIDE = 3;
    private static final int LEFT_OVER = 4;
    private static final int AND = 5;
    private static final int OR = 6;
    private static final int TURN = 7;
    private static final int SHIFT_NUMBER = 8;
    private static final int SHIFT_BITS = 9;
    private static final int IF_SAME = 10;
    private static final int IF_LESS = 11;
    private static final int IF_MORE = 12;
    private static final int GO_ON = 13;
    private static final int ONE_MORE = 14;
    private static final int ONE_LESS = 15;
    private static final int WORD_AT = 16;
    private static final int BYTE_AT = 17;
    private static final int SET_WORD = 18;
    private static final int SET_BYTE = 19;
    private static final int CALL = 20;
    private static final int RETURN = 21;
    private static final int PUSH = 22;
    private static final int PULL = 23;
    private static final int CATCH = 24;
    private static final int THROW = 25;
    private static final int COPY = 26;
    private static final int LOOK = 27;
    private static final int RANDOM = 28;
    private static final int PRINT_NUMBER = 29;
    private static final int PRINT_CHARACTER = 30;
    private static final int PRINT_ROWS = 31;
    private static final int END = 32;

    /** How many OPERANDS each OP has. */
    private static final int[] OPERANDS = {
        2, 2, 2, 2, 2, 2, 2, 1, 2, 2,
        3, 3, 3, 1, 1, 1, 2, 2, 3, 3,
        3, 1, 1, 1, 0, 2, 3, 3, 1, 1,
        1, 3, 0,
    };

    private final Memory memory = new Memory();
    private final Chance chance = new Chance();
    private final Program program = new Program();
    private final Runner runner = new Runner(memory, chance, program);

    public ZMemory() {
    }

    public int size(int n, int d) {
        if (n < 0 || n > MOST_BYTES || d < 0 || d > n) {
            return BAD;
        }
        memory.begin(n, d);
        return DONE;
    }

    public int get(int at, boolean wide) {
        return wide ? memory.wordAt(at) : memory.byteAt(at);
    }

    public int put(int at, int v, boolean wide, boolean shut) {
        return wide ? memory.setWord(at, v, shut) : memory.setByte(at, v, shut);
    }

    public int work(int op, int a, int b) throws IllegalArgumentException, ArithmeticException {
        if (op < ADD || op > SHIFT_BITS) {
            throw new IllegalArgumentException("no such arithmetic");
        }
        int answer = arithmetic(op, number(a), number(b));
        if (answer < 0) {
            throw new ArithmeticException("by 0");
        }
        return number(answer);
    }

    public int copy(int x, int y, int n) {
        return memory.copyTable(word(x), word(y), number(n));
    }

    public int look(int v, int x, int n, int form) {
        if (!isWithin(form, HIGHEST_BYTE)) {
            return BAD;
        }
        return memory.find(v, x, n, form);
    }

    public int random(int r) {
        return chance.draw(number(r));
    }

    public int tape(int t) {
        if (!isWithin(t, HIGHEST_WORD)) {
            return BAD;
        }
        return chance.record(t);
    }

    public int globe(int at) {
        if (!isWithin(at, HIGHEST_WORD)) {
            return BAD;
        }
        int before = runner.globe;
        runner.globe = at;
        return before;
    }

    public int form(int f) {
        if (!isWithin(f, HIGHEST_BYTE)) {
            return BAD;
        }
        int before = runner.form;
        runner.form = f;
        return before;
    }

    public int instruction(int op, int a, int b, int c, int store) {
        if (!isOperand(a) || !isOperand(b) || !isOperand(c)) {
            return BAD;
        }
        if (store < NO_ONE || store > HIGHEST_VARIABLE) {
            return BAD;
        }
        return program.append(op, a, b, c, store);
    }

    public int routine(int r, int at, int locals, boolean guarded) {
        if (!isWithin(r, MOST_ROUTINES - 1)) {
            return NONE;
        }
        if (!isWithin(at, MOST_INSTRUCTIONS - 1) || !isWithin(locals, MOST_LOCALS)) {
            return BAD;
        }
        program.define(r, at, locals, guarded);
        return DONE;
    }

    public int clear() {
        return program.forget();
    }

    public int run(int r, int a, int b) {
        if (!program.hasRoutine(r)) {
            return NONE;
        }
        runner.begin(r, word(a), word(b));
        for (int i = 0; i < MOST_STEPS && runner.isGoing(); i++) {
            runner.settle(runner.step());
        }
        return runner.finish();
    }

    public int told(int what) {
        switch (what) {
            case 0: return runner.steps;
            case 1: return number(runner.returned);
            case 2: return runner.unguarded;
            case 3: return runner.guarded;
            case 4: return runner.arrived;
            case 5: return runner.page.length;
            case 6: return runner.frames.most;
            case 7: return program.length;
            case 8: return chance.taped;
            default: return BAD;
        }
    }

    public int printed(int i) throws IndexOutOfBoundsException {
        int character = runner.page.characterAt(i);
        if (character < 0) {
            throw new IndexOutOfBoundsException("no such character");
        }
        return character;
    }

    public int left(int r) {
        return isWithin(r, MOST_ROUTINES - 1) ? runner.leavings[r] : NONE;
    }

    private static boolean isWithin(int n, int highest) {
        return n >= 0 && n <= highest;
    }

    private static boolean isOperand(int n) {
        return n >= -1 - HIGHEST_VARIABLE && n <= HIGHEST_WORD;
    }

    private static int word(int n) {
        return n & HIGHEST_WORD;
    }

    private static int number(int n) {
        return (short) n;
    }

    /** The WORD that ARITHMETIC of two NUMBERS gives. */
    private static int arithmetic(int op, int a, int b) {
        switch (op) {
            case ADD: return word(a + b);
            case SUBTRACT: return word(a - b);
            case MULTIPLY: return word(a * b);
            case DIVIDE: return b == 0 ? BY_ZERO : word(a / b);
            case LEFT_OVER: return b == 0 ? BY_ZERO : word(a % b);
            case AND: return word(a & b);
            case OR: return word(a | b);
            case TURN: return word(~a);
            case SHIFT_NUMBER: return shiftNumber(a, b);
            case SHIFT_BITS: return shiftBits(word(a), b);
            default: return NO_INSTRUCTION;
        }
    }

    private static int shiftNumber(int a, int b) {
        return word(b > 0 ? a << Math.min(b, 15) : a >> Math.min(-b, 15));
    }

    private static int shiftBits(int a, int b) {
        if (b > 15 || b < -15) {
            return 0;
        }
        return b > 0 ? word(a << b) : a >>> -b;
    }

    private static final class Memory {
        private final int[] bytes = new int[MOST_BYTES];
        private int length;
        private int dynamic;

        void begin(int n, int d) {
            Arrays.fill(bytes, 0);
            length = n;
            dynamic = d;
        }

        private boolean isOutside(int at) {
            return at < 0 || at >= length;
        }

        int byteAt(int at) {
            return isOutside(at) ? OUTSIDE : bytes[at];
        }

        int wordAt(int at) {
            if (isOutside(at) || isOutside(at + 1)) {
                return OUTSIDE;
            }
            return bytes[at] << 8 | bytes[at + 1];
        }

        int setByte(int at, int v, boolean shut) {
            if (isOutside(at)) {
                return OUTSIDE;
            }
            if (!shut && at >= dynamic) {
                return STATIC;
            }
            bytes[at] = v & HIGHEST_BYTE;
            return DONE;
        }

        int setWord(int at, int v, boolean shut) {
            if (isOutside(at) || isOutside(at + 1)) {
                return OUTSIDE;
            }
            if (!shut && at + 1 >= dynamic) {
                return STATIC;
            }
            bytes[at] = v >> 8 & HIGHEST_BYTE;
            bytes[at + 1] = v & HIGHEST_BYTE;
            return DONE;
        }

        int copyTable(int x, int y, int n) {
            if (n == 0) {
                return DONE;
            }
            if (y == 0) {
                return wipe(x, Math.abs(n));
            }
            return n > 0 ? copyAtOnce(x, y, n) : copyInTurn(x, y, -n);
        }

        private int wipe(int x, int n) {
            if (isOutside(x) || isOutside(x + n - 1)) {
                return OUTSIDE;
            }
            if (x + n > dynamic) {
                return STATIC;
            }
            for (int i = 0; i < n; i++) {
                bytes[x + i] = 0;
            }
            return DONE;
        }

        private int copyAtOnce(int x, int y, int n) {
            if (isOutside(x) || isOutside(x + n - 1) || isOutside(y) || isOutside(y + n - 1)) {
                return OUTSIDE;
            }
            if (y + n > dynamic) {
                return STATIC;
            }
            System.arraycopy(bytes, x, bytes, y, n);
            return DONE;
        }

        private int copyInTurn(int x, int y, int n) {
            for (int i = 0; i < n; i++) {
                int v = byteAt(x + i);
                if (v < 0) {
                    return v;
                }
                int answer = setByte(y + i, v, false);
                if (answer < 0) {
                    return answer;
                }
            }
            return DONE;
        }

        /**
         * None of v, x, n is cut or read as a NUMBER, as the term does not say so: what is no WORD is like no
         * entry, and n can be below 0 (none) for look() alone, not as an OPERAND.
         */
        int find(int v, int x, int n, int form) {
            int width = form & 127;
            // Entries of 0 bytes are all at x, so the first tells for all; else the last of these is OUTSIDE.
            int entries = Math.min(n, width == 0 ? 1 : MOST_BYTES + 1);
            for (int i = 0; i < entries; i++) {
                int at = x + i * width;
                int here = form > 127 ? wordAt(at) : byteAt(at);
                if (here < 0) {
                    return here;
                }
                if (here == v) {
                    return at;
                }
            }
            return 0;
        }
    }

    private static final class Chance {
        private static final int BY_SEED = 0;
        private static final int BY_COUNT = 1;
        private static final int BY_TAPE = 2;
        private static final int LOWEST_SEED = 1000;
        private static final int LOWEST_31_BITS = 0x7FFFFFFF;

        private final int[] numbers = new int[MOST_TAPE];
        private int first;
        private int taped;
        private int way = BY_SEED;
        private int seed = 1;
        private int counted;
        private int round;

        int record(int t) {
            if (taped >= MOST_TAPE) {
                return FULL;
            }
            numbers[(first + taped) % MOST_TAPE] = t;
            taped++;
            return taped;
        }

        int draw(int r) {
            if (r > 0) {
                return next() % r + 1;
            }
            if (r == 0) {
                way = BY_TAPE;
            } else if (-r < LOWEST_SEED) {
                way = BY_COUNT;
                round = -r;
                counted = 0;
            } else {
                way = BY_SEED;
                seed = -r;
            }
            return 0;
        }

        private int next() {
            if (way == BY_COUNT) {
                return nextOfCount();
            }
            return way == BY_TAPE && taped > 0 ? nextOfTape() : nextOfSeed();
        }

        /** THE COUNT less 1. */
        private int nextOfCount() {
            int before = counted;
            counted = before + 1 < round ? before + 1 : 0;
            return before;
        }

        private int nextOfTape() {
            int t = numbers[first];
            first = (first + 1) % MOST_TAPE;
            taped--;
            return t;
        }

        private int nextOfSeed() {
            seed = seed * 1103515245 + 12345 & LOWEST_31_BITS;
            return seed >>> 16;
        }
    }

    /** The INSTRUCTIONS and the ROUTINES. */
    private static final class Program {
        private final int[] ops = new int[MOST_INSTRUCTIONS];
        private final int[] operands = new int[3 * MOST_INSTRUCTIONS];
        private final int[] stores = new int[MOST_INSTRUCTIONS];
        private int length;
        private final boolean[] defined = new boolean[MOST_ROUTINES];
        private final int[] starts = new int[MOST_ROUTINES];
        private final int[] locals = new int[MOST_ROUTINES];
        private final boolean[] guards = new boolean[MOST_ROUTINES];

        int append(int op, int a, int b, int c, int store) {
            if (length >= MOST_INSTRUCTIONS) {
                return FULL;
            }
            int at = length;
            ops[at] = op;
            operands[3 * at] = a;
            operands[3 * at + 1] = b;
            operands[3 * at + 2] = c;
            stores[at] = store;
            length++;
            return at;
        }

        void define(int r, int at, int count, boolean guarded) {
            defined[r] = true;
            starts[r] = at;
            locals[r] = count;
            guards[r] = guarded;
        }

        int forget() {
            int before = length;
            length = 0;
            for (int r = 0; r < MOST_ROUTINES; r++) {
                defined[r] = false;
            }
            return before;
        }

        /** NONE, which is no OP, where there is no INSTRUCTION. */
        int opAt(int at) {
            return at >= 0 && at < length ? ops[at] : NONE;
        }

        boolean hasRoutine(int r) {
            return isWithin(r, MOST_ROUTINES - 1) && defined[r];
        }
    }

    private static final class Frame {
        private final int[] locals = new int[MOST_LOCALS];
        private int localCount;
        private int routine;
        private int next;
        /** The VARIABLE of the frame below that gets what this one returns. */
        private int store;
        /** How high the stack was before it. */
        private int floor;

        int local(int k) {
            return hasLocal(k) ? locals[k - 1] : NO_LOCAL;
        }

        int setLocal(int k, int v) {
            if (!hasLocal(k)) {
                return NO_LOCAL;
            }
            locals[k - 1] = v;
            return DONE;
        }

        private boolean hasLocal(int k) {
            return k >= 1 && k <= localCount;
        }
    }

    /** The frames under way and the stack that they share. */
    private static final class Frames {
        private final Frame[] frames = new Frame[MOST_FRAMES];
        private final int[] stack = new int[MOST_STACK];
        private int height;
        private int count;
        private int most;

        Frames() {
            for (int i = 0; i < MOST_FRAMES; i++) {
                frames[i] = new Frame();
            }
        }

        void begin() {
            height = 0;
            count = 0;
            most = 0;
        }

        /** The frame under way; before and after a RUN one that no one asks. */
        Frame top() {
            return frames[count > 0 ? count - 1 : 0];
        }

        /** A new frame with its LOCALS 0; null if there are too many. */
        Frame enter() {
            if (count >= MOST_FRAMES) {
                return null;
            }
            Frame frame = frames[count];
            Arrays.fill(frame.locals, 0);
            frame.floor = height;
            count++;
            most = Math.max(most, count);
            return frame;
        }

        void leave() {
            if (count > 0) {
                count--;
                height = frames[count].floor;
            }
        }

        int pop() {
            if (height <= top().floor) {
                return STACK_EMPTY;
            }
            height--;
            return stack[height];
        }

        int push(int v) {
            if (height >= MOST_STACK) {
                return STACK_FULL;
            }
            stack[height] = v;
            height++;
            return DONE;
        }
    }

    /** What is printed. */
    private static final class Page {
        private final int[] characters = new int[MOST_PRINTED];
        private int length;

        int characterAt(int i) {
            return i >= 0 && i < length ? characters[i] : NONE;
        }

        int print(int character) {
            if (length >= MOST_PRINTED) {
                return PAGE_FULL;
            }
            characters[length] = character & HIGHEST_BYTE;
            length++;
            return DONE;
        }

        int printNumber(int n) {
            int answer = n < 0 ? print('-') : DONE;
            int digits = Math.abs(n);
            for (int unit = 10000; unit > 0 && answer >= 0; unit /= 10) {
                if (digits >= unit || unit == 1) {
                    answer = print('0' + digits / unit % 10);
                }
            }
            return answer;
        }
    }

    /** Carries out one RUN at a time and keeps what is told of the latest. */
    private static final class Runner {
        private static final int GOING = -1;
        private static final int RETURNED = 0;
        private static final int ENDED = 1;
        private static final int FAULTED = 2;
        private static final int SPENT = 3;

        private final Memory memory;
        private final Chance chance;
        private final Program program;
        private final Frames frames = new Frames();
        private final Page page = new Page();
        private final int[] leavings = new int[MOST_ROUTINES];
        private final int[] values = new int[3];
        private int globe;
        private int form = FORM_AT_FIRST;
        private int ending;
        private int steps;
        private int mishaps;
        private int returned;
        private int unguarded;
        private int guarded;
        private int arrived;
        /** The VARIABLE that gets what the STEP tells. */
        private int store;

        Runner(Memory memory, Chance chance, Program program) {
            this.memory = memory;
            this.chance = chance;
            this.program = program;
        }

        void begin(int r, int a, int b) {
            frames.begin();
            page.length = 0;
            Arrays.fill(leavings, 0);
            ending = GOING;
            steps = 0;
            mishaps = 0;
            returned = 0;
            unguarded = 0;
            guarded = 0;
            arrived = 0;
            enter(r, a, b, NO_ONE);
        }

        boolean isGoing() {
            return ending == GOING;
        }

        int finish() {
            if (ending == GOING) {
                ending = SPENT;
            }
            leaveDownTo(0);
            return ending;
        }

        /** What the next INSTRUCTION tells, for the VARIABLE store, or its FAULT. */
        int step() {
            steps++;
            store = NO_ONE;
            int at = frames.top().next;
            int op = program.opAt(at);
            if (op < 0 || op >= OPERANDS.length) {
                return NO_INSTRUCTION;
            }
            for (int i = 0; i < OPERANDS[op]; i++) {
                int operand = program.operands[3 * at + i];
                int value = operand < 0 ? ask(-1 - operand) : operand;
                if (value < 0) {
                    return value;
                }
                values[i] = value;
            }
            frames.top().next = at + 1;
            return carryOut(op, program.stores[at], values[0], values[1], values[2]);
        }

        /** Stores what a STEP told, or raises its FAULT: what a guard then returns is stored too. */
        void settle(int told) {
            int answer = keep(told);
            // A raised FAULT ends a frame or the RUN, so there are no more of them than frames.
            for (int i = 0; i < MOST_FRAMES && answer < 0; i++) {
                answer = keep(raise(answer));
            }
        }

        private int keep(int told) {
            return told < 0 || store == NO_ONE ? told : set(store, told);
        }

        private int carryOut(int op, int into, int a, int b, int c) {
            if (op <= SHIFT_BITS) {
                return tell(into, arithmetic(op, number(a), number(b)));
            }
            switch (op) {
                case IF_SAME: return goOnIf(a == b, c);
                case IF_LESS: return goOnIf(number(a) < number(b), c);
                case IF_MORE: return goOnIf(number(a) > number(b), c);
                case GO_ON: return goOnIf(true, a);
                case ONE_MORE: return change(a & HIGHEST_VARIABLE, 1);
                case ONE_LESS: return change(a & HIGHEST_VARIABLE, -1);
                case WORD_AT: return tell(into, memory.wordAt(a + 2 * number(b)));
                case BYTE_AT: return tell(into, memory.byteAt(a + number(b)));
                case SET_WORD: return memory.setWord(a + 2 * number(b), c, false);
                case SET_BYTE: return memory.setByte(a + number(b), c, false);
                case CALL: return enter(a, b, c, into);
                case RETURN: return giveBack(a);
                case PUSH: return frames.push(a);
                case PULL: return tell(a & HIGHEST_VARIABLE, frames.pop());
                case CATCH: return tell(into, frames.count - 1);
                case THROW: return throwTo(b, a);
                case COPY: return memory.copyTable(a, b, number(c));
                case LOOK: return tell(into, memory.find(a, b, c, form));
                case RANDOM: return tell(into, chance.draw(number(a)));
                case PRINT_NUMBER: return page.printNumber(number(a));
                case PRINT_CHARACTER: return page.print(a);
                case PRINT_ROWS: return printRows(a, number(b), number(c));
                case END: return end(ENDED);
                default: return NO_INSTRUCTION;
            }
        }

        private int tell(int into, int told) {
            store = into;
            return told;
        }

        private int end(int how) {
            ending = how;
            return tell(NO_ONE, DONE);
        }

        private int goOnIf(boolean so, int at) {
            if (so) {
                frames.top().next = at;
            }
            return DONE;
        }

        /** The stack's uppermost goes and comes again, which leaves it where it is. */
        private int change(int k, int more) {
            int before = ask(k);
            return before < 0 ? before : tell(k, word(before + more));
        }

        private int ask(int k) {
            if (k == 0) {
                return frames.pop();
            }
            return k < FIRST_GLOBAL ? frames.top().local(k) : memory.wordAt(placeOfGlobal(k));
        }

        private int set(int k, int v) {
            if (k == 0) {
                return frames.push(v);
            }
            if (k < FIRST_GLOBAL) {
                return frames.top().setLocal(k, v);
            }
            return memory.setWord(placeOfGlobal(k), v, false);
        }

        private int placeOfGlobal(int k) {
            return globe + 2 * (k - FIRST_GLOBAL);
        }

        private int enter(int r, int b, int c, int into) {
            if (!program.hasRoutine(r)) {
                return NO_ROUTINE;
            }
            Frame frame = frames.enter();
            if (frame == null) {
                return DEEP;
            }
            frame.routine = r;
            frame.next = program.starts[r];
            frame.localCount = program.locals[r];
            frame.store = into;
            frame.setLocal(1, b);
            frame.setLocal(2, c);
            return DONE;
        }

        /** The frame under way returns v: the one below it is told, or the RUN has returned. */
        private int giveBack(int v) {
            int into = frames.top().store;
            leaveDownTo(frames.count - 1);
            if (frames.count == 0) {
                returned = v;
                return end(RETURNED);
            }
            return tell(into, v);
        }

        private void leaveDownTo(int count) {
            for (int i = frames.count; i > count && i > 0; i--) {
                leavings[frames.top().routine]++;
                frames.leave();
            }
        }

        private int throwTo(int number, int v) {
            if (number >= frames.count) {
                return NO_FRAME;
            }
            if (mishaps >= MOST_MISHAPS) {
                return end(SPENT);
            }
            mishaps++;
            arrived++;
            leaveDownTo(number + 1);
            return giveBack(v);
        }

        /** A FAULT goes to the innermost frame that is GUARDED, which returns its number. */
        private int raise(int failed) {
            if (mishaps >= MOST_MISHAPS) {
                return end(SPENT);
            }
            mishaps++;
            for (int i = frames.count; i > 0 && !program.guards[frames.top().routine]; i--) {
                leaveDownTo(i - 1);
            }
            if (frames.count == 0) {
                unguarded = FAILED - failed;
                return end(FAULTED);
            }
            guarded++;
            return giveBack(FAILED - failed);
        }

        private int printRows(int from, int width, int rows) {
            int at = from;
            for (int row = 0; row < rows; row++) {
                if (row > 0 && page.print('\n') < 0) {
                    return PAGE_FULL;
                }
                for (int i = 0; i < width; i++) {
                    int character = memory.byteAt(at);
                    int answer = character < 0 ? character : page.print(character);
                    if (answer < 0) {
                        return answer;
                    }
                    at++;
                }
            }
            return DONE;
        }
    }
}
