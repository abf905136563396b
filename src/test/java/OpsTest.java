/** Promise 15: what each OP does, with ROUTINE 0 of 3 LOCALS run with 7 and 9. */
public final class OpsTest {
    private static final Due DUE = new Due();
    private static final int STACK = Story.STACK;
    private static final int[] RETURN_STACK = Story.in(21, STACK);

    private static int[] in(int op, int a, int b, int c, int store) {
        return Story.in(op, a, b, c, store);
    }

    private static int[] in(int op, int a, int b, int c) {
        return Story.in(op, a, b, c);
    }

    private static int[] in(int op, int a) {
        return Story.in(op, a);
    }

    private static int variable(int k) {
        return Story.variable(k);
    }

    private static Story returns(String name, int want, int[]... instructions) {
        return Story.returning(DUE, name, want, instructions);
    }

    private static Story faults(String name, int want, int[]... instructions) {
        return Story.faulting(DUE, name, want, instructions);
    }

    private static void arithmetic() {
        returns("OP 0", -32768, in(0, 32767, 1, 0, 0), RETURN_STACK);
        returns("OP 1", -2, in(1, 7, 9, 0, 0), RETURN_STACK);
        returns("OP 2", 24464, in(2, 300, 300, 0, 0), RETURN_STACK);
        returns("OP 3", -3, in(3, 65529, 2, 0, 0), RETURN_STACK);
        returns("OP 4", -1, in(4, 65529, 2, 0, 0), RETURN_STACK);
        returns("OP 5", 8, in(5, 12, 10, 0, 0), RETURN_STACK);
        returns("OP 6", 14, in(6, 12, 10, 0, 0), RETURN_STACK);
        returns("OP 7 has one OPERAND", -6, in(7, 5, STACK, STACK, 0), RETURN_STACK);
        returns("OP 8", -3, in(8, 65531, 65535, STACK, 0), RETURN_STACK);
        returns("OP 9", 32767, in(9, 65535, 65535, 0, 0), RETURN_STACK);
        returns("OP 9 gives a WORD", 2, in(9, 65535, 1, 0, 3), in(10, variable(3), 65534, 3), in(21, 1), in(21, 2));
        faults("OP 3 by 0", 1, in(3, 7, 0, 0, 0));
        faults("OP 4 by 0", 1, in(4, 7, 0, 0, 0));
        returns("the uppermost is the first OPERAND", 7, in(22, 3), in(22, 10), in(1, STACK, STACK, 0, 0), RETURN_STACK);
        faults("no STORE", 4, in(0, 1, 2, 0, -1), RETURN_STACK);
        returns("WORDS that are run with", -2, in(1, variable(1), variable(2), 0, 3), in(21, variable(3)));
    }

    private static void jumps() {
        int[] one = in(21, 1);
        int[] two = in(21, 2);
        returns("OP 10, the same", 2, in(10, 5, 5, 2), one, two);
        returns("OP 10, not the same", 1, in(10, 5, 6, 2), one, two);
        returns("OP 11, less", 2, in(11, 65535, 0, 2), one, two);
        returns("OP 11, the same", 1, in(11, 0, 0, 2), one, two);
        returns("OP 11, more", 1, in(11, 0, 65535, 2), one, two);
        returns("OP 12, more", 2, in(12, 0, 65535, 2), one, two);
        returns("OP 12, the same", 1, in(12, 3, 3, 2), one, two);
        returns("OP 12, less", 1, in(12, 32768, 32767, 2), one, two);
        faults("OP 10 works c also if it does not go there", 4, in(10, 5, 6, STACK), one, two);
        faults("OP 11 works c", 4, in(11, 6, 5, STACK), one, two);
        faults("OP 12 works c", 4, in(12, 5, 6, STACK), one, two);
        returns("OP 13", 2, in(13, 2, STACK, STACK), one, two);
        faults("OP 13 behind the last", 10, in(13, 3), one, two).told(0, 2);
        faults("OP 13 far", 10, in(13, 65535), one).told(0, 2);
        faults("behind the last", 10, in(22, 1)).told(0, 2);
    }

    private static void variables() {
        returns("OP 14, a LOCAL", 8, in(14, 1), in(21, variable(1)));
        returns("OP 14, lowest 8 bits", 8, in(14, 257), in(21, variable(1)));
        returns("OP 14, wrapping", -32768, in(0, 32767, 0, 0, 3), in(14, 3), in(21, variable(3)));
        returns("OP 14, 65535", 0, in(0, 65535, 0, 0, 3), in(14, 3), in(21, variable(3)));
        returns("OP 15, a LOCAL", 6, in(15, 1), in(21, variable(1)));
        returns("OP 15, wrapping", -1, in(15, 3), in(21, variable(3)));
        returns("OP 14, a GLOBAL", 1, in(14, 17), in(21, variable(17))).has(22, true, 1).has(20, true, 0);
        returns("OP 14, the stack", 6, in(22, 5), in(14, 0), RETURN_STACK);
        faults("OP 14, the stack stays as high", 4, in(22, 5), in(14, 0), in(23, 1), RETURN_STACK);
        returns("OP 15, the stack", 4, in(22, 5), in(15, 256), RETURN_STACK);
        returns("OP 14 has no STORE", 7, in(14, 3, STACK, STACK, 1), in(21, variable(1)));
        returns("OP 14, the number is a VARIABLE's", 1, in(22, 17), in(14, STACK), in(21, variable(17)));
        faults("OP 14, the stack has nothing", 4, in(14, 0));
        faults("OP 15, the stack has nothing", 4, in(15, 0));
        faults("OP 14, no such LOCAL", 7, in(14, 4));
        faults("OP 14, STATIC", 3, in(14, 26));
        faults("OP 15, OUTSIDE", 2, in(15, 36));
        returns("a GLOBAL of the last bytes", 0, in(21, variable(35)));
        faults("a GLOBAL OUTSIDE", 2, in(21, variable(36)));
        faults("a LOCAL that is none", 7, in(21, variable(4)));
        faults("LOCAL 15", 7, in(21, variable(15)));
        returns("STORE in a GLOBAL", 3, in(0, 1, 2, 0, 25), in(21, variable(25))).has(38, true, 3);
        faults("STORE in a STATIC one", 3, in(0, 1, 2, 0, 26));
        faults("STORE OUTSIDE", 2, in(0, 1, 2, 0, 255));
        faults("STORE in a LOCAL that is none", 7, in(0, 1, 2, 0, 4));
    }

    private static void memory() {
        returns("OP 18, 16", 4660, in(18, 10, 3, 4660), in(16, 10, 3, STACK, 0), RETURN_STACK).has(16, true, 4660);
        returns("OP 18, 16, b below 0", -2, in(18, 10, 65533, 65534), in(16, 10, 65533, 0, 0), RETURN_STACK).has(4, true, 65534);
        returns("OP 19, 17", 52, in(19, 10, 3, 4660), in(17, 10, 3, STACK, 0), RETURN_STACK).has(13, false, 52).has(12, false, 0);
        returns("OP 19, 17, b below 0", 255, in(19, 10, 65533, 65535), in(17, 10, 65533, 0, 0), RETURN_STACK).has(7, false, 255);
        faults("OP 16 OUTSIDE", 2, in(16, 59, 0, 0, 0));
        faults("OP 16 below 0", 2, in(16, 1, 65535, 0, 0));
        faults("OP 16 is not cut", 2, in(16, 65535, 1, 0, 0));
        faults("OP 17 OUTSIDE", 2, in(17, 60, 0, 0, 0));
        faults("OP 17 is not cut", 2, in(17, 65535, 1, 0, 0));
        faults("OP 17 below 0", 2, in(17, 0, 65535, 0, 0));
        faults("OP 18 STATIC", 3, in(18, 39, 0, 65535)).has(39, false, 0);
        faults("OP 18, 2 ahead of 3", 2, in(18, 59, 0, 1));
        faults("OP 19 STATIC", 3, in(19, 40, 0, 1));
        faults("OP 19 OUTSIDE", 2, in(19, 60, 0, 1));
        returns("OP 26", 7, in(19, 0, 0, 9), in(26, 0, 1, 4), in(21, 7)).has(0, true, 0x0909).has(2, true, 0);
        returns("OP 26, below 0", 7, in(19, 0, 0, 9), in(26, 0, 1, 65533), in(21, 7)).has(0, true, 0x0909).has(2, true, 0x0909);
        returns("OP 26, to 0", 7, in(18, 0, 0, 65535), in(26, 1, 0, 1), in(21, 7)).has(0, true, 0xFF00);
        faults("OP 26 STATIC", 3, in(26, 0, 38, 3));
        faults("OP 26 OUTSIDE", 2, in(26, 0, 58, 3));
        returns("OP 27, by FORM 130", 12, in(18, 12, 0, 4660), in(27, 4660, 10, 3, 0), RETURN_STACK);
        returns("OP 27, none", 0, in(18, 12, 0, 4660), in(27, 4660, 10, 1, 0), RETURN_STACK);
        returns("OP 27, no entries", 0, in(27, 0, 10, 0, 0), RETURN_STACK);
        returns("OP 27, 65535 entries", 10, in(27, 0, 10, 65535, 0), RETURN_STACK);
        faults("OP 27 OUTSIDE", 2, in(27, 1, 58, 2, 0));
        Story byForm = new Story(DUE, "OP 27, by FORM 3", in(19, 13, 0, 5), in(27, 5, 10, 3, 0), RETURN_STACK);
        byForm.z.form(3);
        byForm.routine(0, 0, 0, false).runs(0, 0, 0, 0).told(1, 13);
    }

    private static void stackAndChance() {
        returns("OP 22, 23", 5, in(22, 4), in(22, 5, STACK, STACK), in(23, 3), in(21, variable(3)));
        returns("OP 23, lowest 8 bits", 5, in(22, 5), in(23, 259), in(21, variable(3)));
        returns("OP 23, the stack", 5, in(22, 5), in(23, 0), RETURN_STACK);
        returns("OP 23, the number is the stack's", 4, in(22, 4), in(22, 3), in(23, STACK), in(21, variable(3)));
        faults("OP 23, nothing", 4, in(23, 4));
        faults("OP 23, no such LOCAL", 7, in(22, 1), in(23, 4));
        faults("OP 23, STATIC", 3, in(22, 1), in(23, 26));
        returns("OP 24", 0, in(22, 9), in(24, STACK, STACK, STACK, 0), RETURN_STACK);
        returns("OP 28", 16839, in(28, 32767, STACK, STACK, 0), RETURN_STACK);
        returns("OP 28 by COUNT", 2, in(28, 65533, 0, 0, 3), in(28, 50, 0, 0, 3), in(28, 50, 0, 0, 3), in(21, variable(3)));
        returns("OP 28 of 0", 0, in(22, 9), in(28, 0, 0, 0, 0), RETURN_STACK);
    }

    private static void prints() {
        returns("OP 29", 0, in(29, 0), in(29, 65516), in(29, 32767), in(29, 32768), in(29, 100), in(21, 0))
            .printed("0-2032767-32768100");
        returns("OP 30", 0, in(30, 65), in(30, 256 + 66), in(30, 255), in(30, 0), in(21, 0)).printed("AB\u00ff\0");
        Story rows = new Story(DUE, "OP 31", in(31, 0, 2, 3), in(30, 45), in(31, 2, 1, 1), in(31, 0, 5, 0),
            in(31, 0, 5, 65535), in(30, 46), in(31, 60, 0, 3), in(30, 46), in(31, 60, 65535, 2), in(21, 0));
        for (int i = 0; i < 6; i++) {
            rows.z.put(i, 'a' + i, false, false);
        }
        rows.routine(0, 0, 0, false).runs(0, 0, 0, 0).printed("ab\ncd\nef-c.\n\n.\n");
        faults("OP 31 OUTSIDE, after a row", 2, in(19, 10, 0, 120), in(31, 59, 1, 2)).printed("\0\n");
        faults("OP 31 is not cut", 2, in(31, 65535, 1, 1)).printed("");
        faults("OP 31 works all", 4, in(31, 0, 0, STACK));
        faults("OP 29 with 120", 11, in(30, 33), in(31, 0, 29, 2), in(31, 0, 29, 2),
            in(30, 33), in(29, 12345)).told(5, 120).told(0, 5);
        faults("OP 30 with 120", 11, in(31, 0, 0, 121), in(30, 33)).told(5, 120).told(0, 2);
        faults("OP 31 without end", 11, in(31, 0, 0, 32767)).told(5, 120).told(0, 1);
        faults("OP 31 with 120, a byte OUTSIDE", 2, in(31, 0, 0, 121), in(31, 60, 1, 1)).told(5, 120);
        String partly = "\n".repeat(118) + "-1";
        faults("OP 29, what came before stays", 11, in(31, 0, 0, 119), in(29, 65413)).printed(partly);
    }

    private static void ends() {
        new Story(DUE, "OP 32", in(30, 65), in(32, STACK, STACK, STACK, 4), in(21, 5)).routine(0, 0, 0, true)
            .runs(0, 0, 0, 1).told(0, 2).told(1, 0).told(2, 0).told(3, 0).left(0, 1).printed("A");
        returns("OP 21", -1, in(21, 65535, STACK, STACK, 4));
        for (int op : new int[] {-1, 33, 100, Integer.MAX_VALUE, Integer.MIN_VALUE}) {
            faults("OP " + op + " works no OPERAND", 10, in(op, STACK, variable(4), STACK, 0)).told(0, 1);
        }
    }

    public static void main(String[] args) {
        arithmetic();
        jumps();
        variables();
        memory();
        stackAndChance();
        prints();
        ends();
        DUE.end();
    }
}
