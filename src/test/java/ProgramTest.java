/** Promises 10 globe, 11 form, 12 instruction, 13 routine, 14 clear. */
public final class ProgramTest {
    private static final Due DUE = new Due();

    private static void globeAndForm() {
        ZMemory z = new ZMemory();
        DUE.is("globe(65535)", z.globe(65535), 0);
        DUE.is("globe(65536)", z.globe(65536), -2);
        DUE.is("globe(-1)", z.globe(-1), -2);
        DUE.is("globe(4)", z.globe(4), 65535);
        DUE.is("globe(0)", z.globe(0), 4);
        DUE.is("form(255)", z.form(255), 130);
        DUE.is("form(256)", z.form(256), -2);
        DUE.is("form(-1)", z.form(-1), -2);
        DUE.is("form(0)", z.form(0), 255);
        DUE.is("form(1)", z.form(1), 0);
    }

    private static void instructions() {
        ZMemory z = new ZMemory();
        DUE.is("a -257", z.instruction(0, -257, 0, 0, 0), -2);
        DUE.is("a 65536", z.instruction(0, 65536, 0, 0, 0), -2);
        DUE.is("b -257", z.instruction(0, 0, -257, 0, 0), -2);
        DUE.is("b 65536", z.instruction(0, 0, 65536, 0, 0), -2);
        DUE.is("c -257", z.instruction(0, 0, 0, -257, 0), -2);
        DUE.is("c 65536", z.instruction(0, 0, 0, 65536, 0), -2);
        DUE.is("STORE -2", z.instruction(0, 0, 0, 0, -2), -2);
        DUE.is("STORE 256", z.instruction(0, 0, 0, 0, 256), -2);
        DUE.is("lowest", z.instruction(Integer.MIN_VALUE, -256, -256, -256, -1), 0);
        DUE.is("highest", z.instruction(Integer.MAX_VALUE, 65535, 65535, 65535, 255), 1);
        for (int i = 2; i < 100; i++) {
            DUE.is("instruction " + i, z.instruction(i, 0, 0, 0, 0), i);
        }
        DUE.is("told(7)", z.told(7), 100);
        DUE.is("one more", z.instruction(0, 0, 0, 0, 0), -3);
        DUE.is("BAD ahead of FULL", z.instruction(0, -257, 0, 0, 0), -2);
        DUE.is("told(7) is as before", z.told(7), 100);
        DUE.is("clear()", z.clear(), 100);
        DUE.is("told(7) is 0", z.told(7), 0);
        DUE.is("the first again", z.instruction(0, 0, 0, 0, 0), 0);
        DUE.is("clear()", z.clear(), 1);
        DUE.is("clear()", z.clear(), 0);
    }

    private static void routines() {
        ZMemory z = new ZMemory();
        DUE.is("routine -1", z.routine(-1, 0, 0, false), -1);
        DUE.is("routine 8", z.routine(8, 0, 0, false), -1);
        DUE.is("NONE ahead of BAD", z.routine(8, -1, 16, false), -1);
        DUE.is("at -1", z.routine(0, -1, 0, false), -2);
        DUE.is("at 100", z.routine(0, 100, 0, false), -2);
        DUE.is("LOCALS -1", z.routine(0, 0, -1, false), -2);
        DUE.is("LOCALS 16", z.routine(0, 0, 16, false), -2);
        DUE.is("run(0) after refusals", z.run(0, 0, 0), -1);
        DUE.is("routine 0", z.routine(0, 99, 15, true), 1);
        DUE.is("routine 7", z.routine(7, 0, 0, false), 1);
        DUE.is("run(7): an INSTRUCTION that is none", z.run(7, 0, 0), 2);
        DUE.is("told(2)", z.told(2), 10);
        DUE.is("run(0): guarded", z.run(0, 0, 0), 0);
        DUE.is("told(1)", z.told(1), 10);
        z.instruction(21, 5, 0, 0, -1);
        DUE.is("run(7): the INSTRUCTION came later", z.run(7, 0, 0), 0);
        DUE.is("told(1)", z.told(1), 5);
        DUE.is("routine 7 is another", z.routine(7, 1, 0, false), 1);
        DUE.is("run(7)", z.run(7, 0, 0), 2);
        DUE.is("clear()", z.clear(), 1);
        DUE.is("run(7) after clear", z.run(7, 0, 0), -1);
        DUE.is("run(0) after clear", z.run(0, 0, 0), -1);
        DUE.is("told(2) of the latest RUN stays", z.told(2), 10);
        DUE.is("left(7) of the latest RUN stays", z.left(7), 1);
        DUE.is("run(-1)", z.run(-1, 0, 0), -1);
        DUE.is("run(8)", z.run(8, 0, 0), -1);
        DUE.is("run(MIN)", z.run(Integer.MIN_VALUE, 0, 0), -1);
    }

    public static void main(String[] args) {
        globeAndForm();
        instructions();
        routines();
        DUE.end();
    }
}
