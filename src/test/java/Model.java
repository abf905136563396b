import java.util.ArrayDeque;
import java.util.ArrayList;
import java.util.Deque;
import java.util.List;

/**
 * The document once more, written another way: calls by recursion, FAULTS, throws and ends by
 * Java's exceptions. ModelTest holds the program against it.
 */
final class Model {
    @SuppressWarnings("serial")
    static final class Fault extends RuntimeException {
        final int number;
        boolean counted;

        Fault(int number) {
            this.number = number;
        }
    }

    @SuppressWarnings("serial")
    private static final class Thrown extends RuntimeException {
        final int frame;
        final int value;

        Thrown(int frame, int value) {
            this.frame = frame;
            this.value = value;
        }
    }

    @SuppressWarnings("serial")
    private static final class End extends RuntimeException {
        final int how;

        End(int how) {
            this.how = how;
        }
    }

    private record Instruction(int op, int a, int b, int c, int store) {
    }

    private record Routine(int at, int locals, boolean guarded) {
    }

    /** How many OPERANDS each OP has. */
    private static final String MANY = "2222222122" + "3331112233" + "3111023311" + "130";

    int[] memory = new int[0];
    int dynamic = 0;
    int globe = 0;
    int form = 130;
    final Deque<Integer> tape = new ArrayDeque<>();
    private char way = 's';
    private long seed = 1;
    private int count;
    private int last;
    private final List<Instruction> instructions = new ArrayList<>();
    private Routine[] routines = new Routine[8];

    int steps;
    int returned;
    int unguarded;
    int guarded;
    int arrived;
    int most;
    int[] left = new int[8];
    StringBuilder printed = new StringBuilder();
    private int frames;
    private int mishaps;
    private final List<Integer> stack = new ArrayList<>();

    int size(int n, int d) {
        if (n < 0 || n > 2000 || d < 0 || d > n) {
            return -2;
        }
        memory = new int[n];
        dynamic = d;
        return 1;
    }

    private int peek(long at) {
        if (at < 0 || at >= memory.length) {
            throw new Fault(2);
        }
        return memory[(int) at];
    }

    private int peek(long at, boolean wide) {
        return wide ? peek(at) * 256 + peek(at + 1) : peek(at);
    }

    private void poke(long at, int v, boolean wide, boolean shut) {
        peek(at, wide);
        if (!shut && at + (wide ? 1 : 0) >= dynamic) {
            throw new Fault(3);
        }
        if (wide) {
            memory[(int) at] = v >> 8 & 255;
            memory[(int) at + 1] = v & 255;
        } else {
            memory[(int) at] = v & 255;
        }
    }

    int get(int at, boolean wide) {
        try {
            return peek(at, wide);
        } catch (Fault f) {
            return -10 - f.number;
        }
    }

    int put(int at, int v, boolean wide, boolean shut) {
        try {
            poke(at, v, wide, shut);
            return 1;
        } catch (Fault f) {
            return -10 - f.number;
        }
    }

    int copy(int x, int y, int n) {
        try {
            copyTable(x & 65535, y & 65535, (short) n);
            return 1;
        } catch (Fault f) {
            return -10 - f.number;
        }
    }

    private void copyTable(int x, int y, int n) {
        int many = n < 0 ? -n : n;
        if (y != 0 && n < 0) {
            for (int i = 0; i < many; i++) {
                poke(y + i, peek(x + i), false, false);
            }
            return;
        }
        int to = y == 0 ? x : y;
        int[] carried = new int[many];
        for (int i = 0; i < many; i++) {
            carried[i] = y == 0 ? peek(x + i) * 0 : peek(x + i);
        }
        for (int i = 0; i < many; i++) {
            peek(to + i);
        }
        for (int i = 0; i < many; i++) {
            if (to + i >= dynamic) {
                throw new Fault(3);
            }
        }
        for (int i = 0; i < many; i++) {
            memory[to + i] = carried[i];
        }
    }

    int look(int v, int x, int n, int f) {
        if (f < 0 || f > 255) {
            return -2;
        }
        try {
            return lookFor(v, x, n, f);
        } catch (Fault fault) {
            return -10 - fault.number;
        }
    }

    private int lookFor(int v, int x, int n, int f) {
        for (long i = 0; i < n; i++) {
            long at = x + i * (f % 128);
            if (peek(at, f / 128 == 1) == v) {
                return (int) at;
            }
            if (f % 128 == 0) {
                return 0;
            }
        }
        return 0;
    }

    int random(int any) {
        int r = (short) any;
        if (r == 0) {
            way = 't';
            return 0;
        }
        if (r < 0) {
            way = r > -1000 ? 'c' : 's';
            if (way == 'c') {
                last = -r;
                count = 0;
            } else {
                seed = -r;
            }
            return 0;
        }
        if (way == 'c') {
            count = count == last ? 1 : count + 1;
            return (count - 1) % r + 1;
        }
        if (way == 't' && !tape.isEmpty()) {
            return tape.removeFirst() % r + 1;
        }
        seed = (seed * 1103515245L + 12345L) % 2147483648L;
        return (int) (seed / 65536) % r + 1;
    }

    int tape(int t) {
        if (t < 0 || t > 65535) {
            return -2;
        }
        if (tape.size() == 50) {
            return -3;
        }
        tape.addLast(t);
        return tape.size();
    }

    int work(int op, int x, int y) {
        int a = (short) x;
        int b = (short) y;
        if (op < 0 || op > 9) {
            throw new IllegalArgumentException();
        }
        if ((op == 3 || op == 4) && b == 0) {
            throw new Fault(1);
        }
        int power = 1 << Math.min(b < 0 ? -b : b, 15);
        boolean beyond = b > 15 || b < -15;
        return (short) switch (op) {
            case 0 -> a + b;
            case 1 -> a - b;
            case 2 -> a * b;
            case 3 -> a / b;
            case 4 -> a - a / b * b;
            case 5 -> a & b;
            case 6 -> a | b;
            case 7 -> -a - 1;
            case 8 -> b >= 0 ? a * power : Math.floorDiv(a, power);
            default -> beyond ? 0 : b >= 0 ? (a & 65535) * power : (a & 65535) / power;
        };
    }

    int instruction(int op, int a, int b, int c, int store) {
        for (int operand : new int[] {a, b, c}) {
            if (operand < -256 || operand > 65535) {
                return -2;
            }
        }
        if (store < -1 || store > 255) {
            return -2;
        }
        if (instructions.size() == 100) {
            return -3;
        }
        instructions.add(new Instruction(op, a, b, c, store));
        return instructions.size() - 1;
    }

    int routine(int r, int at, int locals, boolean guard) {
        if (r < 0 || r > 7) {
            return -1;
        }
        if (at < 0 || at > 99 || locals < 0 || locals > 15) {
            return -2;
        }
        routines[r] = new Routine(at, locals, guard);
        return 1;
    }

    int clear() {
        int before = instructions.size();
        instructions.clear();
        routines = new Routine[8];
        return before;
    }

    int run(int r, int a, int b) {
        if (r < 0 || r > 7 || routines[r] == null) {
            return -1;
        }
        steps = returned = unguarded = guarded = arrived = most = frames = mishaps = 0;
        left = new int[8];
        printed = new StringBuilder();
        stack.clear();
        try {
            returned = (short) call(r, a & 65535, b & 65535);
            return 0;
        } catch (End e) {
            return e.how;
        } catch (Fault f) {
            unguarded = f.number;
            return 2;
        }
    }

    private void mishap() {
        if (mishaps == 12) {
            throw new End(3);
        }
        mishaps++;
    }

    private int call(int r, int b, int c) {
        if (r > 7 || routines[r] == null) {
            throw new Fault(9);
        }
        if (frames == 12) {
            throw new Fault(6);
        }
        int number = frames++;
        most = Math.max(most, frames);
        int floor = stack.size();
        try {
            return new Body(routines[r], number, floor, b, c).live();
        } catch (Thrown t) {
            if (t.frame != number) {
                throw t;
            }
            arrived++;
            return t.value;
        } catch (Fault f) {
            if (!routines[r].guarded) {
                throw f;
            }
            guarded++;
            return f.number;
        } finally {
            left[r]++;
            frames--;
            stack.subList(floor, stack.size()).clear();
        }
    }

    private final class Body {
        private final Routine routine;
        private final int number;
        private final int floor;
        private final int[] locals = new int[16];
        private int at;

        Body(Routine routine, int number, int floor, int b, int c) {
            this.routine = routine;
            this.number = number;
            this.floor = floor;
            this.at = routine.at;
            locals[1] = b;
            locals[2] = c;
        }

        int live() {
            while (true) {
                if (steps == 300) {
                    throw new End(3);
                }
                steps++;
                Integer back = countedStep();
                if (back != null) {
                    return back;
                }
            }
        }

        /** A FAULT that comes through from a called frame was counted there. */
        private Integer countedStep() {
            try {
                return step();
            } catch (Fault f) {
                if (!f.counted) {
                    mishap();
                    f.counted = true;
                }
                throw f;
            }
        }

        private int pop() {
            if (stack.size() == floor) {
                throw new Fault(4);
            }
            return stack.remove(stack.size() - 1);
        }

        private void push(int v) {
            if (stack.size() == 100) {
                throw new Fault(5);
            }
            stack.add(v);
        }

        private int ask(int k) {
            if (k == 0) {
                return pop();
            }
            if (k < 16) {
                if (k > routine.locals) {
                    throw new Fault(7);
                }
                return locals[k];
            }
            return peek(globe + 2 * (k - 16), true);
        }

        private void set(int k, int any) {
            int v = any & 65535;
            if (k == 0) {
                push(v);
            } else if (k >= 16) {
                poke(globe + 2 * (k - 16), v, true, false);
            } else if (k > routine.locals) {
                throw new Fault(7);
            } else {
                locals[k] = v;
            }
        }

        private int worked(int operand) {
            return operand >= 0 ? operand : ask(-1 - operand);
        }

        private void print(int character) {
            if (printed.length() == 120) {
                throw new Fault(11);
            }
            printed.append((char) (character & 255));
        }

        private Integer step() {
            if (at >= instructions.size()) {
                throw new Fault(10);
            }
            Instruction i = instructions.get(at);
            if (i.op < 0 || i.op > 32) {
                throw new Fault(10);
            }
            at++;
            int many = MANY.charAt(i.op) - '0';
            int a = many > 0 ? worked(i.a) : 0;
            int b = many > 1 ? worked(i.b) : 0;
            int c = many > 2 ? worked(i.c) : 0;
            if (i.op == 21) {
                return a;
            }
            Integer told = i.op < 10 ? Integer.valueOf(work(i.op, a, b)) : act(i.op, a, b, c);
            if (told != null && i.store >= 0) {
                set(i.store, told);
            }
            return null;
        }

        private Integer act(int op, int a, int b, int c) {
            int nb = (short) b;
            int nc = (short) c;
            switch (op) {
                case 10 -> at = a == b ? c : at;
                case 11 -> at = (short) a < nb ? c : at;
                case 12 -> at = (short) a > nb ? c : at;
                case 13 -> at = a;
                case 14, 15 -> bump(a % 256, op == 14 ? 1 : -1);
                case 16 -> {
                    return peek(a + 2 * nb, true);
                }
                case 17 -> {
                    return peek(a + nb);
                }
                case 18 -> poke(a + 2 * nb, c, true, false);
                case 19 -> poke(a + nb, c, false, false);
                case 20 -> {
                    return call(a, b, c);
                }
                case 22 -> push(a);
                case 23 -> set(a % 256, pop());
                case 24 -> {
                    return number;
                }
                case 25 -> {
                    if (b >= frames) {
                        throw new Fault(8);
                    }
                    mishap();
                    throw new Thrown(b, a);
                }
                case 26 -> copyTable(a, b, nc);
                case 27 -> {
                    return lookFor(a, b, c, form);
                }
                case 28 -> {
                    return random(a);
                }
                case 29 -> ("" + (short) a).chars().forEach(this::print);
                case 30 -> print(a);
                case 31 -> {
                    for (int row = 0; row < nc; row++) {
                        if (row > 0) {
                            print(10);
                        }
                        for (int i = 0; i < nb; i++) {
                            print(peek(a + row * nb + i));
                        }
                    }
                }
                default -> throw new End(1);
            }
            return null;
        }

        private void bump(int k, int by) {
            if (k == 0) {
                int v = pop();
                stack.add(v + by & 65535);
            } else {
                set(k, ask(k) + by);
            }
        }
    }
}
