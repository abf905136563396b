import java.util.Random;

/** Holds long runs of calls, made by seeds, against the model: all promises, also with odd arguments. */
public final class ModelTest {
    private static final int[] ODD = {0, 1, -1, 2, 255, 256, 999, 1000, 1001, 2000, 2001, 32767, 32768, -32767, -32768, -32769,
        65535, 65536, 65537, -65536, 100000, Integer.MAX_VALUE, Integer.MIN_VALUE};
    private static final int OBJECTS = 30000;
    /** An object is promised for 512 calls; what a call and the looks after it use at most is kept back. */
    private static final int CALLS = 512 - 250;
    private static final int LOOKED_AT = 64;

    private final Random random;
    private final ZMemory z = new ZMemory();
    private final Model m = new Model();
    private final StringBuilder calls = new StringBuilder();
    private int used = 0;

    private ModelTest(long seed) {
        random = new Random(seed);
    }

    private int below(int n) {
        return random.nextInt(n);
    }

    private boolean one(int in) {
        return random.nextInt(in) == 0;
    }

    private int odd(int usual) {
        return one(25) ? ODD[below(ODD.length)] + (one(2) ? 0 : below(3) - 1) : usual;
    }

    private int near() {
        return below(64) - 2;
    }

    /** -12 .. 12 and the like, as a WORD. */
    private int small() {
        return one(3) ? 65535 - below(12) : below(13);
    }

    private boolean same(String call, int got, int want) {
        used++;
        calls.append(call).append(" = ").append(got).append('\n');
        if (got == want) {
            return true;
        }
        System.out.println(calls + "due is " + want);
        return false;
    }

    private int operand() {
        switch (below(9)) {
            case 0: return -1;
            case 1: return -2 - below(4);
            case 2: return -17 - below(one(8) ? 240 : 12);
            case 3: return below(60);
            case 4: return small();
            case 5: return odd(below(65536));
            default: return below(12);
        }
    }

    private int op() {
        switch (below(8)) {
            case 0: return 20;
            case 1: return one(3) ? 25 : 22;
            case 2: return one(12) ? odd(33) : 24;
            case 3: return one(3) ? 21 : 10 + below(4);
            default: return below(one(6) ? 33 : 32);
        }
    }

    private int store() {
        return one(3) ? -1 : one(2) ? below(5) : one(30) ? odd(255) : 16 + below(12);
    }

    /** Arguments that suit the OP often enough for a RUN to come far. */
    private boolean instruction() {
        int op = op();
        int a = operand();
        int b = operand();
        int c = operand();
        if (op >= 10 && op <= 12) {
            c = below(30);
        } else if (op == 13) {
            a = below(30);
        } else if (op == 14 || op == 15 || op == 23) {
            a = one(3) ? 16 + below(10) : below(5);
        } else if (op == 20 && !one(10)) {
            a = below(5);
        } else if (op == 25 && !one(4)) {
            b = below(6);
        } else if (op == 26 && !one(4)) {
            b = one(4) ? 0 : below(50);
            c = small();
        } else if (op == 27 && !one(4)) {
            a = one(2) ? 0 : small();
            b = below(62);
            c = one(2) ? below(12) : small();
        }
        int store = store();
        return same("instruction(" + op + ", " + a + ", " + b + ", " + c + ", " + store + ")",
            z.instruction(op, a, b, c, store), m.instruction(op, a, b, c, store));
    }

    private boolean routine() {
        int r = odd(below(5));
        int at = odd(below(25));
        int locals = odd(one(4) ? below(16) : 2 + below(4));
        boolean guarded = one(2);
        return same("routine(" + r + ", " + at + ", " + locals + ", " + guarded + ")",
            z.routine(r, at, locals, guarded), m.routine(r, at, locals, guarded));
    }

    private boolean run() {
        int r = odd(below(5));
        int a = odd(below(30));
        int b = odd(small());
        if (!same("run(" + r + ", " + a + ", " + b + ")", z.run(r, a, b), m.run(r, a, b))) {
            return false;
        }
        int[] due = {m.steps, m.returned, m.unguarded, m.guarded, m.arrived, m.printed.length(), m.most};
        for (int what = 0; what < due.length; what++) {
            if (!same("told(" + what + ")", z.told(what), due[what])) {
                return false;
            }
        }
        for (int i = 0; i < 8; i++) {
            if (!same("left(" + i + ")", z.left(i), m.left[i])) {
                return false;
            }
        }
        for (int i = 0; i < m.printed.length(); i++) {
            if (!same("printed(" + i + ")", z.printed(i), m.printed.charAt(i))) {
                return false;
            }
        }
        return sameMemory();
    }

    private boolean sameMemory() {
        for (int i = 0; i < m.memory.length && i < LOOKED_AT; i++) {
            used++;
            if (z.get(i, false) != m.memory[i]) {
                return same("get(" + i + ", false)", z.get(i, false), m.memory[i]);
            }
        }
        return same("told(8)", z.told(8), m.tape.size());
    }

    private boolean work() {
        int op = odd(below(10));
        int a = odd(random.nextInt());
        int b = odd(one(2) ? small() * 2 : random.nextInt());
        int got;
        try {
            got = z.work(op, a, b);
        } catch (IllegalArgumentException e) {
            got = 100000;
        } catch (ArithmeticException e) {
            got = 200000;
        }
        int want;
        try {
            want = m.work(op, a, b);
        } catch (IllegalArgumentException e) {
            want = 100000;
        } catch (Model.Fault e) {
            want = 200000;
        }
        return same("work(" + op + ", " + a + ", " + b + ")", got, want);
    }

    private boolean memory() {
        int at = odd(near());
        int v = odd(one(2) ? small() : random.nextInt());
        boolean wide = one(2);
        boolean shut = one(2);
        int n = odd(below(20) - 8);
        int to = odd(one(4) ? 0 : near());
        int form = odd(one(3) ? below(4) + 128 * below(2) : below(256));
        switch (below(6)) {
            case 0: return same("get(" + at + ", " + wide + ")", z.get(at, wide), m.get(at, wide));
            case 1: return same("copy(" + at + ", " + to + ", " + n + ")", z.copy(at, to, n), m.copy(at, to, n)) && sameMemory();
            case 2: return same("look(" + v + ", " + at + ", " + n + ", " + form + ")", z.look(v, at, n, form), m.look(v, at, n, form));
            default: return same("put(" + at + ", " + v + ", " + wide + ", " + shut + ")", z.put(at, v, wide, shut), m.put(at, v, wide, shut));
        }
    }

    private boolean settings() {
        int n = odd(below(61));
        int d = odd(Math.max(0, n) * 3 / 4);
        int before = m.globe;
        switch (below(10)) {
            case 0:
                return same("size(" + n + ", " + d + ")", z.size(n, d), m.size(n, d)) && sameMemory();
            case 1: case 2:
                if (n >= 0 && n < 65536) {
                    m.globe = n;
                }
                return same("globe(" + n + ")", z.globe(n), n >= 0 && n < 65536 ? before : -2);
            case 3:
                before = m.form;
                if (n >= 0 && n < 256) {
                    m.form = n;
                }
                return same("form(" + n + ")", z.form(n), n >= 0 && n < 256 ? before : -2);
            case 4:
                return !one(8) || same("clear()", z.clear(), m.clear());
            case 5: case 6:
                return same("tape(" + n + ")", z.tape(n), m.tape(n));
            default:
                int r = one(3) ? odd(one(2) ? 0 : -below(2000)) : odd(1 + below(100));
                return same("random(" + r + ")", z.random(r), m.random(r));
        }
    }

    private boolean call() {
        switch (below(16)) {
            case 0: return work();
            case 1: case 2: case 3: return memory();
            case 4: case 5: return settings();
            case 6: return routine();
            case 7: case 8: case 9: return run();
            default: return instruction();
        }
    }

    private boolean holds() {
        if (!same("size(60, 44)", z.size(60, 44), m.size(60, 44))) {
            return false;
        }
        for (int i = 0; i < 30; i++) {
            if (!instruction() || i % 4 == 0 && !routine()) {
                return false;
            }
        }
        while (used < CALLS) {
            if (!call()) {
                return false;
            }
        }
        return true;
    }

    public static void main(String[] args) {
        int wrong = 0;
        for (int seed = 0; seed < OBJECTS && wrong < 3; seed++) {
            if (!new ModelTest(seed).holds()) {
                System.out.println("seed " + seed);
                wrong++;
            }
        }
        System.exit(wrong == 0 ? 0 : 1);
    }
}
