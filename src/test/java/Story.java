/** A program on a new object, and what is due of its runs. */
final class Story {
    static final int STACK = -1;
    static final int NO_ONE = -1;

    final ZMemory z = new ZMemory();
    private final Due due;
    private final String name;

    /** 60 bytes, 40 of which can be written; GLOBALS from 20 on, so that 26 and more are STATIC. */
    Story(Due due, String name, int[]... instructions) {
        this.due = due;
        this.name = name;
        z.size(60, 40);
        z.globe(20);
        for (int[] i : instructions) {
            z.instruction(i[0], i[1], i[2], i[3], i[4]);
        }
    }

    /** ROUTINE 0 of 3 LOCALS, run with 7 and 9, returns. */
    static Story returning(Due due, String name, int want, int[]... instructions) {
        return new Story(due, name, instructions).routine(0, 0, 3, false).runs(0, 7, 9, 0).told(1, want).told(2, 0);
    }

    /** ROUTINE 0 of 3 LOCALS, run with 7 and 9, ends by a FAULT. */
    static Story faulting(Due due, String name, int want, int[]... instructions) {
        return new Story(due, name, instructions).routine(0, 0, 3, false).runs(0, 7, 9, 2).told(1, 0).told(2, want);
    }

    static int variable(int k) {
        return -1 - k;
    }

    static int[] in(int op, int a, int b, int c, int store) {
        return new int[] {op, a, b, c, store};
    }

    static int[] in(int op, int a, int b, int c) {
        return in(op, a, b, c, NO_ONE);
    }

    static int[] in(int op, int a) {
        return in(op, a, 0, 0, NO_ONE);
    }

    Story routine(int r, int at, int locals, boolean guarded) {
        due.is(name + ": routine " + r, z.routine(r, at, locals, guarded), 1);
        return this;
    }

    Story runs(int r, int a, int b, int want) {
        due.is(name + ": run " + r, z.run(r, a, b), want);
        return this;
    }

    Story told(int what, int want) {
        due.is(name + ": told " + what, z.told(what), want);
        return this;
    }

    Story left(int r, int want) {
        due.is(name + ": left " + r, z.left(r), want);
        return this;
    }

    Story has(int at, boolean wide, int want) {
        due.is(name + ": get " + at, z.get(at, wide), want);
        return this;
    }

    Story printed(String want) {
        due.is(name + ": how many are printed", z.told(5), want.length());
        for (int i = 0; i < want.length() && i < z.told(5); i++) {
            due.is(name + ": printed " + i, z.printed(i), want.charAt(i));
        }
        due.throwing(name + ": printed behind", IndexOutOfBoundsException.class, () -> z.printed(z.told(5)));
        due.throwing(name + ": printed -1", IndexOutOfBoundsException.class, () -> z.printed(-1));
        return this;
    }
}
