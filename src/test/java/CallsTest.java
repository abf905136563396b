/** Promises 15 to 18: calls, throws, guards, how a RUN ends and what is told of it. */
public final class CallsTest {
    private static final Due DUE = new Due();
    private static final int STACK = Story.STACK;

    private static int[] in(int op, int a, int b, int c, int store) {
        return Story.in(op, a, b, c, store);
    }

    private static int[] in(int op, int a) {
        return Story.in(op, a);
    }

    private static int variable(int k) {
        return Story.variable(k);
    }

    private static Story story(String name, int[]... instructions) {
        return new Story(DUE, name, instructions);
    }

    private static void locals() {
        int[][] program = {in(20, 1, 5, 6, 0), in(21, STACK), in(0, variable(1), variable(2), 0, 3),
            in(0, variable(3), variable(15), 0, 0), in(14, 15), in(21, STACK)};
        story("LOCALS", program).routine(0, 0, 0, false).routine(1, 2, 15, false).runs(0, 1, 2, 0).told(1, 11)
            .runs(0, 1, 2, 0).told(1, 11);
        story("one LOCAL", program).routine(0, 0, 0, false).routine(1, 2, 1, false).runs(0, 1, 2, 2).told(2, 7);
        story("LOCALS are 0 each time", in(20, 1, 0, 0, -1), in(20, 1, 0, 0, 0), in(21, STACK), in(14, 5),
            in(21, variable(5))).routine(0, 0, 0, false).routine(1, 3, 5, false).runs(0, 0, 0, 0).told(1, 1).left(1, 2);
        story("lowest 16 bits", in(1, variable(1), variable(2), 0, 0), in(21, STACK)).routine(0, 0, 2, false)
            .runs(0, 65536 + 5, -1, 0).told(1, 6);
        story("WORDS of a and b", in(10, variable(1), 5, 2, -1), in(21, 1), in(10, variable(2), 65535, 4, -1), in(21, 2),
            in(21, 3)).routine(0, 0, 2, false).runs(0, 65536 + 5, -1, 0).told(1, 3);
        story("a caller's LOCALS stay", in(20, 1, 50, 60, 3), in(0, variable(1), variable(2), 0, 1), in(21, variable(1)),
            in(0, 1, 1, 0, 1), in(0, 1, 1, 0, 2), in(21, 0)).routine(0, 0, 3, false).routine(1, 3, 3, false)
            .runs(0, 7, 9, 0).told(1, 16);
    }

    private static void stack() {
        story("what lay before can't be reached", in(22, 5), in(20, 1, 0, 0, 0), in(21, STACK), in(21, STACK))
            .routine(0, 0, 0, false).routine(1, 3, 0, true).runs(0, 0, 0, 0).told(1, 4).told(3, 1)
            .routine(1, 3, 0, false).runs(0, 0, 0, 2).told(2, 4).told(3, 0);
        story("what is left there is gone", in(22, 5), in(20, 1, 0, 0, -1), in(21, STACK), in(22, 6), in(22, 7), in(21, 1))
            .routine(0, 0, 0, false).routine(1, 3, 0, false).runs(0, 0, 0, 0).told(1, 5);
        story("a RUN begins with an empty one", in(22, 5), in(32, 0), in(21, STACK)).routine(0, 0, 0, false)
            .routine(1, 2, 0, false).runs(0, 0, 0, 1).runs(1, 0, 0, 2).told(2, 4);
        int[] pushes = in(22, 1);
        int[] again = in(13, 0);
        story("it has 100", pushes, again).routine(0, 0, 0, false).runs(0, 0, 0, 2).told(2, 5).told(0, 201);
        story("it has 100, of all frames", in(22, 1), in(14, 16), in(11, variable(16), 99, 0, -1), in(20, 1, 0, 0, -1),
            in(22, 1), in(22, 1), in(21, 2)).routine(0, 0, 0, false)
            .routine(1, 4, 0, true).runs(0, 0, 0, 3).told(0, 300).told(3, 1);
    }

    private static void fullStack() {
        int[][] program = new int[70][];
        for (int i = 0; i < 50; i++) {
            program[i] = in(22, i);
        }
        program[50] = in(10, variable(1), 1, 60, -1);
        program[51] = in(20, 0, 1, 0, 0);
        program[52] = in(21, STACK);
        for (int i = 53; i < 70; i++) {
            program[i] = in(22, 7);
        }
        program[60] = in(14, 0);
        program[61] = in(20, 1, 0, 0, 0);
        story("100 in two frames", program).routine(0, 0, 1, true).routine(1, 99, 0, true)
            .runs(0, 0, 0, 0).told(1, 5).told(3, 2).told(0, 50 + 2 + 50 + 1 + 1 + 1 + 1 + 1).left(0, 2).left(1, 1);
    }

    private static void throwing() {
        int[][] program = {in(24, 0, 0, 0, 1), in(20, 1, variable(1), 0, 2), in(0, variable(2), 100, 0, 2),
            in(21, variable(2)), in(20, 2, variable(1), 0, 0), in(21, 3), in(25, 77, variable(1), 0, 3)};
        story("to the first frame", program).routine(0, 0, 2, true).routine(1, 4, 1, true).routine(2, 6, 1, true)
            .runs(0, 0, 0, 0).told(1, 77).told(0, 4).told(3, 0).told(4, 1).told(6, 3).left(0, 1).left(1, 1).left(2, 1);
        int[][] middle = {in(20, 1, 0, 0, 2), in(0, variable(2), 100, 0, 2), in(21, variable(2)),
            in(24, 0, 0, 0, 1), in(22, 5), in(20, 2, variable(1), 0, 0), in(21, 3), in(25, 65535, variable(1), 0, -1)};
        story("to the one between", middle).routine(0, 0, 2, false).routine(1, 3, 1, false).routine(2, 7, 1, false)
            .runs(0, 0, 0, 0).told(1, 99).told(4, 1).left(0, 1).left(1, 1).left(2, 1);
        story("to itself", in(20, 1, 0, 0, 0), in(21, STACK), in(25, 8, 1, 0, -1)).routine(0, 0, 0, false)
            .routine(1, 2, 0, false).runs(0, 0, 0, 0).told(1, 8).told(4, 1);
        story("to one that is not under way", in(20, 1, 0, 0, 0), in(21, STACK), in(25, 8, 2, 0, -1))
            .routine(0, 0, 0, false).routine(1, 2, 0, true).runs(0, 0, 0, 0).told(1, 8).told(3, 1).told(4, 0)
            .routine(1, 2, 0, false).runs(0, 0, 0, 2).told(2, 8).told(3, 0).told(4, 0);
        story("far", in(25, 1, 65535, 0, -1)).routine(0, 0, 0, false).runs(0, 0, 0, 2).told(2, 8);
        story("the STORE of what is thrown faults", in(20, 1, 0, 0, 4), in(21, 1), in(25, 8, 1, 0, -1))
            .routine(0, 0, 3, true).routine(1, 2, 0, true).runs(0, 0, 0, 0).told(1, 7).told(3, 1).told(4, 1).told(0, 2);
    }

    private static void guarding() {
        int[][] program = {in(20, 1, 0, 0, 1), in(21, variable(1)), in(20, 2, 0, 0, 1), in(21, 50), in(3, 1, 0, 0, 1)};
        story("the innermost", program).routine(0, 0, 1, true).routine(1, 2, 1, true).routine(2, 4, 1, false)
            .runs(0, 0, 0, 0).told(1, 1).told(3, 1).told(0, 4).left(2, 1).left(1, 1).left(0, 1);
        story("its own", program).routine(0, 0, 1, true).routine(1, 2, 1, true).routine(2, 4, 1, true)
            .runs(0, 0, 0, 0).told(1, 50).told(3, 1).told(0, 5);
        story("the outermost", program).routine(0, 0, 1, true).routine(1, 2, 1, false).routine(2, 4, 1, false)
            .runs(0, 0, 0, 0).told(1, 1).told(3, 1).told(0, 3).told(2, 0);
        story("no one", program).routine(0, 0, 1, false).routine(1, 2, 1, false).routine(2, 4, 1, false)
            .runs(0, 0, 0, 2).told(1, 0).told(2, 1).told(3, 0).told(0, 3).left(0, 1).left(1, 1).left(2, 1).left(3, 0);
        int[][] stores = {in(20, 0, 0, 0, 9), in(21, 5)};
        story("STORES of guards fault in turn", stores).routine(0, 0, 0, true).runs(0, 0, 0, 0)
            .told(0, 12).told(1, 7).told(3, 12).told(6, 12).left(0, 12);
        story("no such ROUTINE", in(20, 8, 0, 0, -1)).routine(0, 0, 0, false).runs(0, 0, 0, 2).told(2, 9).told(6, 1);
        story("no such ROUTINE yet", in(20, 7, 0, 0, -1)).routine(0, 0, 0, true).runs(0, 0, 0, 0).told(1, 9).left(7, 0);
        story("9 ahead of 6", in(10, variable(1), 11, 4, -1), in(0, variable(1), 1, 0, 1),
            in(20, 0, variable(1), 0, 0), in(21, STACK), in(20, 6, 0, 0, -1)).routine(0, 0, 1, false)
            .runs(0, 0, 0, 2).told(6, 12).told(2, 9);
        story("DEEP", in(20, 0, 0, 0, -1)).routine(0, 0, 0, false).runs(0, 0, 0, 2).told(0, 12).told(2, 6)
            .told(6, 12).left(0, 12);
    }

    private static void spent() {
        int[][] faulting = {in(20, 1, 0, 0, -1), in(15, 1), in(12, variable(1), 0, 0, -1), in(21, 9), in(3, 1, 0, 0, -1)};
        story("12 FAULTS", faulting).routine(0, 0, 1, false).routine(1, 4, 0, true).runs(0, 12, 0, 0)
            .told(1, 9).told(3, 12).told(0, 49).left(1, 12)
            .runs(0, 13, 0, 3).told(1, 0).told(2, 0).told(3, 12).told(0, 50).left(0, 1).left(1, 13);
        int[][] thrown = {in(20, 1, 0, 0, -1), in(15, 1), in(12, variable(1), 0, 0, -1), in(3, 1, 0, 0, -1), in(25, 1, 1, 0, -1)};
        story("12 throws and a FAULT", thrown).routine(0, 0, 1, false).routine(1, 4, 0, true)
            .runs(0, 11, 0, 2).told(2, 1).told(4, 11)
            .runs(0, 12, 0, 3).told(2, 0).told(4, 12).left(0, 1).left(1, 12)
            .runs(0, 13, 0, 3).told(4, 12).left(1, 13);
        int[][] both = {in(20, 1, 0, 0, -1), in(20, 2, 0, 0, -1), in(15, 1), in(12, variable(1), 0, 0, -1), in(21, 9),
            in(25, 1, 1, 0, -1), in(25, 1, 2, 0, -1)};
        story("both count", both).routine(0, 0, 1, false).routine(1, 5, 0, true).routine(2, 6, 0, true)
            .runs(0, 6, 0, 0).told(3, 6).told(4, 6)
            .runs(0, 7, 0, 3).told(3, 6).told(4, 6).told(1, 0);
        int[][] turns = {in(15, 1), in(12, variable(1), 0, 0, -1), in(13, 3), in(21, 9)};
        story("300 STEPS", turns).routine(0, 0, 1, true).runs(0, 149, 0, 0).told(0, 300).told(1, 9)
            .runs(0, 150, 0, 3).told(0, 300).told(1, 0).left(0, 1);
        int[][] faultAtLast = {in(15, 1), in(12, variable(1), 0, 0, -1), in(13, 3), in(13, 99)};
        story("an INSTRUCTION that is none is a STEP", faultAtLast).routine(0, 0, 1, false)
            .runs(0, 148, 0, 2).told(0, 299).told(2, 10).runs(0, 149, 0, 3).told(0, 300).told(2, 0);
        story("OP 32 in a called one", in(20, 1, 0, 0, -1), in(21, 1), in(32, 0)).routine(0, 0, 0, true)
            .routine(1, 2, 0, true).runs(0, 0, 0, 1).told(0, 2).told(1, 0).told(6, 2).left(0, 1).left(1, 1);
    }

    private static void latestRun() {
        Story s = story("the latest RUN", in(30, 65), in(20, 1, 0, 0, 1), in(21, variable(1)), in(3, 1, 0, 0, 1), in(21, 6))
            .routine(0, 0, 1, false).routine(1, 3, 1, true).routine(2, 4, 0, false);
        s.runs(0, 0, 0, 0).told(0, 4).told(1, 1).told(3, 1).told(5, 1).told(6, 2).told(7, 5).left(0, 1).left(1, 1).printed("A");
        s.runs(3, 0, 0, -1).told(0, 4).told(1, 1).told(3, 1).told(5, 1).told(6, 2).left(0, 1).printed("A");
        s.runs(2, 0, 0, 0).told(0, 1).told(1, 6).told(3, 0).told(5, 0).told(6, 1).left(0, 0).left(1, 0).left(2, 1).printed("");
        s.told(-1, -2).told(9, -2).told(Integer.MIN_VALUE, -2).left(-1, -1).left(8, -1).left(Integer.MAX_VALUE, -1);
        for (int i : new int[] {-1, 0, 1, 119, 120, Integer.MIN_VALUE, Integer.MAX_VALUE}) {
            DUE.throwing("printed(" + i + ")", IndexOutOfBoundsException.class, () -> s.z.printed(i));
        }
        Story taped = story("THE TAPE", in(28, 0), in(28, 10, 0, 0, 1), in(21, variable(1))).routine(0, 0, 1, false);
        taped.z.tape(14);
        taped.z.tape(15);
        taped.told(8, 2).runs(0, 0, 0, 0).told(1, 5).told(8, 1);
    }

    public static void main(String[] args) {
        locals();
        stack();
        fullStack();
        throwing();
        guarding();
        spent();
        latestRun();
        DUE.end();
    }
}
