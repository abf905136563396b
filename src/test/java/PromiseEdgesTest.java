/**
 * The sentences of promises 1 to 18 that name an edge or a refusal, each with a test of its own. "Refusals change
 * nothing" is held against a twin: an object with the same calls but for those that are refused.
 */
public final class PromiseEdgesTest {
    private static final Due DUE = new Due();
    private static final int NONE = ZMemory.NONE;
    private static final int BAD = ZMemory.BAD;
    private static final int FULL = ZMemory.FULL;
    private static final int MIN = Integer.MIN_VALUE;
    private static final int MAX = Integer.MAX_VALUE;

    private static void newObject() {
        DUE.about("SIZE 0, DYNAMIC 0, GLOBE 0, FORM 130; no INSTRUCTIONS, no ROUTINES");
        ZMemory z = new ZMemory();
        DUE.is("SIZE", z.get(0, false), -12);
        DUE.is("GLOBE", z.globe(5), 0);
        DUE.is("FORM", z.form(5), 130);
        DUE.is("INSTRUCTIONS", z.told(7), 0);
        DUE.is("INSTRUCTIONS, cleared", z.clear(), 0);
        DUE.is("THE TAPE", z.told(8), 0);
        for (int r = 0; r < 8; r++) {
            DUE.is("ROUTINE " + r, z.run(r, 0, 0), NONE);
            DUE.is("left(" + r + ")", z.left(r), 0);
        }
        for (int what = 0; what <= 6; what++) {
            DUE.is("told(" + what + ") before a RUN", z.told(what), 0);
        }
        DUE.throwing("printed(0) before a RUN", IndexOutOfBoundsException.class, () -> z.printed(0));
    }

    private static void sizes() {
        DUE.about("MEMORY has n bytes (0 .. 2000), all 0, the first d of which can be written: 1. BAD.");
        ZMemory z = new ZMemory();
        int[][] good = {{0, 0}, {1, 0}, {1, 1}, {2000, 0}, {2000, 2000}, {1999, 1998}};
        for (int[] g : good) {
            DUE.is("size(" + g[0] + ", " + g[1] + ")", z.size(g[0], g[1]), 1);
            DUE.is("the last", z.get(g[0] - 1, false), g[0] == 0 ? -12 : 0);
            DUE.is("behind the last", z.get(g[0], false), -12);
            DUE.is("the last that can be written", z.put(g[1] - 1, 7, false, false), g[1] == 0 ? -12 : 1);
            DUE.is("behind that", z.put(g[1], 7, false, false), g[1] == g[0] ? -12 : -13);
        }
        int[][] bad = {{-1, -1}, {-1, 0}, {0, 1}, {0, -1}, {5, 6}, {5, -1}, {2001, 0}, {2001, 2001}, {MAX, 0}, {MIN, MIN}, {5, MAX}, {5, MIN}};
        for (int[] b : bad) {
            DUE.is("size(" + b[0] + ", " + b[1] + ")", z.size(b[0], b[1]), BAD);
        }
        DUE.is("the same size: all 0 again", z.size(1999, 1998), 1);
        for (int i = 0; i < 1999; i += 6) {
            DUE.is("get(" + i + ")", z.get(i, false), 0);
        }
        DUE.is("get(1997), what was the last that can be written", z.get(1997, false), 0);
    }

    private static void gets() {
        DUE.about("The byte (wide: WORD) at an ADDRESS (any int). FAILED.");
        ZMemory z = new ZMemory();
        z.size(3, 3);
        z.put(0, 255, false, false);
        z.put(1, 128, false, false);
        z.put(2, 7, false, false);
        DUE.is("get(0)", z.get(0, false), 255);
        DUE.is("get(0), wide", z.get(0, true), 0xFF80);
        DUE.is("get(1), wide", z.get(1, true), 0x8007);
        DUE.is("get(2)", z.get(2, false), 7);
        DUE.is("get(2), wide", z.get(2, true), -12);
        for (int at : new int[] {3, -1, -2, 65536, 65537, -65536, MAX, MIN, MAX - 1, MIN + 1}) {
            DUE.is("get(" + at + ")", z.get(at, false), -12);
            DUE.is("get(" + at + "), wide", z.get(at, true), -12);
        }
    }

    private static void puts() {
        DUE.about("It becomes v; shut: also where it can't be written by programs: 1. FAILED (by 3 unless shut).");
        ZMemory z = new ZMemory();
        z.size(4, 2);
        DUE.is("put(1)", z.put(1, 5, false, false), 1);
        DUE.is("put(2)", z.put(2, 5, false, false), -13);
        DUE.is("get(2)", z.get(2, false), 0);
        DUE.is("put(2), shut", z.put(2, 6, false, true), 1);
        DUE.is("get(2)", z.get(2, false), 6);
        DUE.is("put(0), wide", z.put(0, 0x0102, true, false), 1);
        DUE.is("put(1), wide", z.put(1, 0x0304, true, false), -13);
        DUE.is("get(0), wide", z.get(0, true), 0x0102);
        DUE.is("put(1), wide, shut", z.put(1, 0x0304, true, true), 1);
        DUE.is("get(1), wide", z.get(1, true), 0x0304);
        DUE.is("put(2), wide, shut", z.put(2, 0x0506, true, true), 1);
        DUE.is("put(3), wide, shut", z.put(3, 0x0708, true, true), -12);
        DUE.is("get(2), wide", z.get(2, true), 0x0506);
        for (int at : new int[] {4, -1, 65536, MAX, MIN}) {
            DUE.is("put(" + at + "), shut", z.put(at, 1, false, true), -12);
            DUE.is("put(" + at + "), wide, shut", z.put(at, 1, true, true), -12);
            DUE.is("put(" + at + ")", z.put(at, 1, false, false), -12);
            DUE.is("put(" + at + "), wide", z.put(at, 1, true, false), -12);
        }
        DUE.is("shut does not open it", z.put(2, 9, false, false), -13);
    }

    private static void works() {
        DUE.about("IllegalArgumentException: no such one; ArithmeticException: by 0");
        ZMemory z = new ZMemory();
        DUE.is("work(0)", z.work(0, 1, 1), 2);
        DUE.is("work(9)", z.work(9, 1, 1), 2);
        for (int op : new int[] {-1, 10, 16, 28, MIN, MAX, 65536}) {
            DUE.throwing("work(" + op + ", 1, 1)", IllegalArgumentException.class, () -> z.work(op, 1, 1));
            DUE.throwing("work(" + op + ", 1, 0)", IllegalArgumentException.class, () -> z.work(op, 1, 0));
        }
        for (int op = 0; op < 10; op++) {
            int now = op;
            if (op == 3 || op == 4) {
                DUE.throwing("work(" + op + ", 1, 0)", ArithmeticException.class, () -> z.work(now, 1, 0));
            } else {
                DUE.is("work(" + op + ", 0, 0)", z.work(op, 0, 0), op == 7 ? -1 : 0);
            }
        }
        DUE.about("two NUMBERS (their lowest 16 bits count): a NUMBER");
        DUE.is("65536 + 7 and 65536 + 8", z.work(0, 65536 + 7, 65536 + 8), 15);
        DUE.is("MIN + MAX", z.work(0, MIN, MAX), -1);
        DUE.is("65535 / 65535", z.work(3, 65535, 65535), 1);
        DUE.is("65535 / 2", z.work(3, 65535, 2), 0);
        DUE.is("1 shifted by 65537", z.work(8, 1, 65537), 2);
        DUE.is("65535 bits by 65535", z.work(9, 65535, 65535), 32767);
    }

    private static void copies() {
        DUE.about("TO COPY (lowest 16 bits of each): 1. FAILED.");
        ZMemory z = new ZMemory();
        z.size(8, 6);
        z.put(0, 0x0102, true, false);
        DUE.is("copy(65536, 65538, 65538)", z.copy(65536, 65538, 65538), 1);
        DUE.is("get(2)", z.get(2, true), 0x0102);
        DUE.is("copy(-65536, -65532, 2)", z.copy(-65536, -65532, 2), 1);
        DUE.is("get(4)", z.get(4, true), 0x0102);
        DUE.is("copy(0, 1, 65534), below 0", z.copy(0, 1, 65534), 1);
        DUE.is("get(0)", z.get(0, true), 0x0101);
        DUE.is("get(2)", z.get(2, true), 0x0102);
        DUE.is("copy(0, 65536, 1), to 0", z.copy(0, 65536, 1), 1);
        DUE.is("get(0)", z.get(0, true), 0x0001);
        DUE.is("copy(0, 5, 2)", z.copy(0, 5, 2), -13);
        DUE.is("copy(0, 7, 2)", z.copy(0, 7, 2), -12);
        DUE.is("copy(MIN, MIN, MIN)", z.copy(MIN, MIN, MIN), 1);
        DUE.is("copy(MAX, MAX, MAX)", z.copy(MAX, MAX, MAX), -12);
    }

    private static void looks() {
        DUE.about("TO LOOK: the ADDRESS, 0. BAD: FORM is not 0 .. 255; FAILED.");
        ZMemory z = new ZMemory();
        z.size(5, 0);
        z.put(3, 9, false, true);
        DUE.is("FORM 0", z.look(9, 3, 1, 0), 3);
        DUE.is("FORM 255", z.look(0x0900, 3, 1, 255), 3);
        for (int form : new int[] {-1, 256, MIN, MAX, 65536 + 1, -255}) {
            DUE.is("FORM " + form, z.look(9, 3, 1, form), BAD);
            DUE.is("FORM " + form + ", OUTSIDE", z.look(9, 5, 1, form), BAD);
            DUE.is("FORM " + form + ", no entries", z.look(9, 3, 0, form), BAD);
        }
        DUE.is("form(1)", z.form(1), 130);
        DUE.is("FORM of look is its own", z.look(9, 3, 1, 0), 3);
        DUE.is("FORM of OP 27 is as before", z.form(2), 1);
    }

    private static void randoms() {
        DUE.about("RANDOM (lowest 16 bits)");
        ZMemory z = new ZMemory();
        DUE.is("random(-65536) is of 0", z.random(-65536), 0);
        z.tape(8);
        DUE.is("random(65536 + 5) is of 5", z.random(65536 + 5), 4);
        DUE.is("random(65534) is of -2", z.random(65534), 0);
        DUE.is("THE COUNT", z.random(9), 1);
        DUE.is("THE COUNT", z.random(9), 2);
        DUE.is("THE COUNT", z.random(9), 1);
        DUE.is("random(MIN) is of 0", z.random(MIN), 0);
        z.tape(6);
        DUE.is("THE TAPE", z.random(9), 7);
        DUE.is("random(MAX) is of -1", z.random(MAX), 0);
        DUE.is("THE COUNT of one", z.random(9), 1);
        DUE.is("THE COUNT of one", z.random(9), 1);
    }

    private static void tapes() {
        DUE.about("A number (0 .. 65535) comes behind THE TAPE: how many it has. BAD; FULL: there are 50.");
        ZMemory z = new ZMemory();
        for (int t : new int[] {-1, 65536, MIN, MAX}) {
            DUE.is("tape(" + t + ")", z.tape(t), BAD);
        }
        DUE.is("told(8)", z.told(8), 0);
        for (int i = 1; i <= 50; i++) {
            DUE.is("number " + i, z.tape(i == 1 ? 0 : i == 2 ? 65535 : i), i);
        }
        DUE.is("one more", z.tape(1), FULL);
        DUE.is("BAD ahead of FULL", z.tape(65536), BAD);
        DUE.is("told(8)", z.told(8), 50);
        z.random(0);
        DUE.is("the first", z.random(32767), 1);
        DUE.is("there is room", z.tape(4), 50);
        DUE.is("one more", z.tape(1), FULL);
        DUE.is("the second", z.random(32767), 65535 % 32767 + 1);
        for (int i = 3; i <= 50; i++) {
            DUE.is("number " + i, z.random(32767), i + 1);
        }
        DUE.is("the one behind", z.random(32767), 5);
        DUE.is("told(8)", z.told(8), 0);
    }

    private static void globes() {
        DUE.about("GLOBE becomes an ADDRESS (0 .. 65535): what it was. BAD.");
        ZMemory z = new ZMemory();
        DUE.is("globe(65535)", z.globe(65535), 0);
        for (int at : new int[] {-1, 65536, MIN, MAX}) {
            DUE.is("globe(" + at + ")", z.globe(at), BAD);
        }
        DUE.is("globe(0)", z.globe(0), 65535);
        DUE.is("globe(0) again", z.globe(0), 0);
        DUE.is("size changes no GLOBE", z.globe(7), 0);
        z.size(100, 100);
        z.clear();
        DUE.is("size changes no GLOBE", z.globe(8), 7);
    }

    private static void forms() {
        DUE.about("FORM of OP 27 becomes that: what it was. BAD.");
        ZMemory z = new ZMemory();
        DUE.is("form(255)", z.form(255), 130);
        for (int f : new int[] {-1, 256, MIN, MAX}) {
            DUE.is("form(" + f + ")", z.form(f), BAD);
        }
        DUE.is("form(0)", z.form(0), 255);
        z.size(10, 10);
        z.clear();
        z.put(4, 9, false, false);
        z.instruction(27, 9, 4, 2, 0);
        z.instruction(21, -1, 0, 0, -1);
        z.routine(0, 0, 0, false);
        DUE.is("run by FORM 0", z.run(0, 0, 0), 0);
        DUE.is("run by FORM 0", z.told(1), 4);
        DUE.is("form(128)", z.form(128), 0);
        DUE.is("run by FORM 128", z.run(0, 0, 0), 0);
        DUE.is("run by FORM 128", z.told(1), 0);
    }

    private static void instructions() {
        DUE.about("An INSTRUCTION (any OP): its number. BAD: an OPERAND is not -256 .. 65535, STORE not -1 .. 255; FULL.");
        ZMemory z = new ZMemory();
        for (int bad : new int[] {-257, 65536, MIN, MAX}) {
            DUE.is("a " + bad, z.instruction(0, bad, 0, 0, 0), BAD);
            DUE.is("b " + bad, z.instruction(0, 0, bad, 0, 0), BAD);
            DUE.is("c " + bad, z.instruction(0, 0, 0, bad, 0), BAD);
            DUE.is("c " + bad + ", which OP 7 has not", z.instruction(7, 0, 0, bad, 0), BAD);
        }
        for (int bad : new int[] {-2, 256, MIN, MAX}) {
            DUE.is("STORE " + bad, z.instruction(0, 0, 0, 0, bad), BAD);
            DUE.is("STORE " + bad + ", which OP 32 does not use", z.instruction(32, 0, 0, 0, bad), BAD);
        }
        DUE.is("told(7)", z.told(7), 0);
        DUE.is("the first", z.instruction(MIN, -256, 65535, -256, -1), 0);
        DUE.is("the second", z.instruction(MAX, 65535, -256, 65535, 255), 1);
        for (int i = 2; i < 100; i++) {
            DUE.is("number " + i, z.instruction(-i, -1, 0, 1, 0), i);
        }
        DUE.is("one more", z.instruction(0, 0, 0, 0, 0), FULL);
        DUE.is("BAD ahead of FULL, OPERAND", z.instruction(0, 0, 0, -257, 0), BAD);
        DUE.is("BAD ahead of FULL, STORE", z.instruction(0, 0, 0, 0, 256), BAD);
        DUE.is("told(7)", z.told(7), 100);
    }

    private static void routines() {
        DUE.about("ROUTINE r begins at an INSTRUCTION (also one that comes later: 0 .. 99), with so many LOCALS: 1. NONE: r; BAD.");
        ZMemory z = new ZMemory();
        for (int r : new int[] {-1, 8, MIN, MAX}) {
            DUE.is("r " + r, z.routine(r, 0, 0, false), NONE);
            DUE.is("r " + r + " ahead of BAD", z.routine(r, 100, 16, false), NONE);
        }
        for (int at : new int[] {-1, 100, MIN, MAX}) {
            DUE.is("at " + at, z.routine(0, at, 0, false), BAD);
        }
        for (int locals : new int[] {-1, 16, MIN, MAX}) {
            DUE.is("LOCALS " + locals, z.routine(0, 0, locals, false), BAD);
        }
        DUE.is("there is none yet", z.run(0, 0, 0), NONE);
        DUE.is("routine(0, 1, 0)", z.routine(0, 1, 0, false), 1);
        DUE.is("routine(7, 99, 15)", z.routine(7, 99, 15, false), 1);
        DUE.is("it comes later: run(0)", z.run(0, 0, 0), 2);
        DUE.is("it comes later: told(2)", z.told(2), 10);
        z.instruction(21, 4, 0, 0, -1);
        z.instruction(21, 5, 0, 0, -1);
        DUE.is("it came: run(0)", z.run(0, 0, 0), 0);
        DUE.is("it came: told(1)", z.told(1), 5);
        DUE.is("refused: NONE", z.routine(8, 0, 0, true), NONE);
        DUE.is("refused: BAD", z.routine(0, 100, 0, true), BAD);
        DUE.is("refused: BAD", z.routine(0, 0, 16, true), BAD);
        DUE.is("it is as before: run(0)", z.run(0, 0, 0), 0);
        DUE.is("it is as before: told(1)", z.told(1), 5);
        DUE.is("another", z.routine(0, 0, 0, false), 1);
        DUE.is("another: run(0)", z.run(0, 0, 0), 0);
        DUE.is("another: told(1)", z.told(1), 4);
    }

    private static void clears() {
        DUE.about("No INSTRUCTIONS, no ROUTINES: how many INSTRUCTIONS there were");
        ZMemory z = new ZMemory();
        z.size(30, 30);
        z.put(9, 77, false, false);
        z.tape(3);
        for (int i = 0; i < 100; i++) {
            z.instruction(i == 0 ? 30 : 21, 65, 0, 0, -1);
        }
        for (int r = 0; r < 8; r++) {
            z.routine(r, 0, 0, true);
        }
        DUE.is("run(3)", z.run(3, 0, 0), 0);
        DUE.is("clear()", z.clear(), 100);
        DUE.is("clear() again", z.clear(), 0);
        DUE.is("told(7)", z.told(7), 0);
        for (int r = 0; r < 8; r++) {
            DUE.is("run(" + r + ")", z.run(r, 0, 0), NONE);
        }
        DUE.is("told(1) stays", z.told(1), 65);
        DUE.is("printed(0) stays", z.printed(0), 65);
        DUE.is("left(3) stays", z.left(3), 1);
        DUE.is("MEMORY stays", z.get(9, false), 77);
        DUE.is("THE TAPE stays", z.told(8), 1);
        z.routine(0, 0, 0, false);
        DUE.is("no INSTRUCTION is left", z.run(0, 0, 0), 2);
        DUE.is("no INSTRUCTION is left", z.told(2), 10);
        DUE.is("the first again", z.instruction(21, 1, 0, 0, -1), 0);
    }

    private static void runs() {
        DUE.about("how it ended. NONE: no such ROUTINE. (What was printed before is gone.)");
        ZMemory z = new ZMemory();
        z.instruction(30, 65, 0, 0, -1);
        z.instruction(3, 1, 0, 0, -1);
        z.instruction(21, 4, 0, 0, -1);
        z.routine(0, 0, 0, false);
        z.routine(7, 2, 0, false);
        DUE.is("run(0)", z.run(0, 0, 0), 2);
        for (int r : new int[] {-1, 1, 6, 8, 65536, MIN, MAX}) {
            DUE.is("run(" + r + ")", z.run(r, 0, 0), NONE);
            DUE.is("told(0) is as before", z.told(0), 2);
            DUE.is("told(2) is as before", z.told(2), 1);
            DUE.is("told(5) is as before", z.told(5), 1);
            DUE.is("left(0) is as before", z.left(0), 1);
        }
        DUE.is("run(7)", z.run(7, 0, 0), 0);
        DUE.is("what was printed is gone", z.told(5), 0);
        DUE.throwing("printed(0)", IndexOutOfBoundsException.class, () -> z.printed(0));
    }

    private static void tells() {
        DUE.about("told: of the latest RUN; BAD");
        ZMemory z = new ZMemory();
        for (int what : new int[] {-1, 9, MIN, MAX}) {
            DUE.is("told(" + what + ")", z.told(what), BAD);
        }
        z.instruction(20, 1, 0, 0, -1);
        z.instruction(20, 2, 0, 0, -1);
        z.instruction(29, 65535, 0, 0, -1);
        z.instruction(21, 32768, 0, 0, -1);
        z.instruction(3, 1, 0, 0, -1);
        z.instruction(25, 1, 1, 0, -1);
        z.routine(0, 0, 0, false);
        z.routine(1, 4, 0, true);
        z.routine(2, 5, 0, false);
        z.routine(3, 4, 0, false);
        z.routine(4, 3, 0, false);
        z.tape(1);
        z.run(0, 0, 0);
        toldOf(z, "returned", 6, -32768, 0, 1, 1, 2, 2, 6, 1);
        z.run(3, 0, 0);
        toldOf(z, "faulted", 1, 0, 1, 0, 0, 0, 1, 6, 1);
        z.run(4, 0, 0);
        toldOf(z, "returned at once", 1, -32768, 0, 0, 0, 0, 1, 6, 1);
        z.instruction(0, 0, 0, 0, -1);
        z.random(0);
        z.random(5);
        toldOf(z, "told 7 and 8 are of now", 1, -32768, 0, 0, 0, 0, 1, 7, 0);
    }

    private static void toldOf(ZMemory z, String when, int... due) {
        for (int what = 0; what < due.length; what++) {
            DUE.is(when + ": told(" + what + ")", z.told(what), due[what]);
        }
    }

    private static void prints() {
        DUE.about("Character i that the latest RUN printed. IndexOutOfBoundsException: there is none such.");
        ZMemory z = new ZMemory();
        z.instruction(31, 0, 0, 120, -1);
        z.instruction(30, 200, 0, 0, -1);
        z.instruction(21, 0, 0, 0, -1);
        z.routine(0, 0, 0, false);
        z.routine(1, 1, 0, false);
        z.run(0, 0, 0);
        DUE.is("printed(0)", z.printed(0), 10);
        DUE.is("printed(118)", z.printed(118), 10);
        DUE.is("printed(119)", z.printed(119), 200);
        for (int i : new int[] {120, 121, -1, MIN, MAX}) {
            DUE.throwing("printed(" + i + ") of 120", IndexOutOfBoundsException.class, () -> z.printed(i));
        }
        z.run(1, 0, 0);
        DUE.is("printed(0) of one", z.printed(0), 200);
        for (int i : new int[] {1, 119, -1}) {
            DUE.throwing("printed(" + i + ") of one", IndexOutOfBoundsException.class, () -> z.printed(i));
        }
    }

    private static void leavings() {
        DUE.about("How often ROUTINE r was LEFT in the latest RUN. NONE: it is not 0 .. 7.");
        ZMemory z = new ZMemory();
        for (int r : new int[] {-1, 8, MIN, MAX}) {
            DUE.is("left(" + r + ")", z.left(r), NONE);
        }
        z.instruction(20, 7, 0, 0, -1);
        z.instruction(20, 7, 0, 0, -1);
        z.instruction(21, 0, 0, 0, -1);
        z.routine(0, 0, 0, false);
        z.routine(7, 2, 0, false);
        z.run(0, 0, 0);
        int[] due = {1, 0, 0, 0, 0, 0, 0, 2};
        for (int r = 0; r < 8; r++) {
            DUE.is("left(" + r + ")", z.left(r), due[r]);
        }
        z.run(7, 0, 0);
        DUE.is("left(0) in the latest", z.left(0), 0);
        DUE.is("left(7) in the latest", z.left(7), 1);
    }

    /** Much that shows, so that a change would be seen. */
    private static ZMemory furnished() {
        ZMemory z = new ZMemory();
        z.size(50, 30);
        for (int i = 0; i < 50; i++) {
            z.put(i, 3 * i + 1, false, true);
        }
        z.globe(10);
        z.form(2);
        z.random(0);
        for (int i = 0; i < 50; i++) {
            z.tape(i);
        }
        z.instruction(29, 12, 0, 0, -1);
        z.instruction(20, 1, 0, 0, 16);
        z.instruction(21, -17, 0, 0, -1);
        z.instruction(3, 1, 0, 0, -1);
        for (int i = 4; i < 100; i++) {
            z.instruction(21, i, 0, 0, -1);
        }
        z.routine(0, 0, 0, false);
        z.routine(1, 3, 0, true);
        z.run(0, 0, 0);
        return z;
    }

    private static void refuseAll(ZMemory z) {
        int[] answers = {z.size(2001, 0), z.size(5, 6), z.tape(-1), z.globe(-1), z.globe(65536), z.form(-1), z.form(256),
            z.instruction(0, -257, 0, 0, 0), z.instruction(0, 0, 0, 0, 256), z.routine(1, 100, 0, false), z.routine(1, 0, 16, false),
            z.told(-1), z.told(9), z.look(1, 0, 1, 256)};
        for (int i = 0; i < answers.length; i++) {
            DUE.is("BAD, call " + i, answers[i], BAD);
        }
        DUE.is("FULL, tape", z.tape(5), FULL);
        DUE.is("FULL, instruction", z.instruction(21, 5, 0, 0, -1), FULL);
        DUE.is("NONE, routine", z.routine(8, 0, 0, false), NONE);
        DUE.is("NONE, run", z.run(5, 0, 0), NONE);
        DUE.is("NONE, left", z.left(8), NONE);
        DUE.is("FAILED, get", z.get(50, false), -12);
        DUE.is("FAILED, put", z.put(30, 0, false, false), -13);
        DUE.is("FAILED, put of a WORD", z.put(29, 0, true, false), -13);
        DUE.is("FAILED, put of a WORD, shut", z.put(49, 0, true, true), -12);
        DUE.is("FAILED, copy", z.copy(1, 20, 11), -13);
        DUE.is("FAILED, copy to 0", z.copy(20, 0, -11), -13);
        DUE.is("FAILED, look", z.look(999, 0, 51, 1), -12);
        DUE.throwing("work", IllegalArgumentException.class, () -> z.work(10, 1, 1));
        DUE.throwing("work by 0", ArithmeticException.class, () -> z.work(3, 1, 0));
        DUE.throwing("printed", IndexOutOfBoundsException.class, () -> z.printed(2));
    }

    private static void refusalsChangeNothing() {
        DUE.about("Refusals are answers below 0; they change nothing");
        ZMemory z = furnished();
        ZMemory twin = furnished();
        refuseAll(z);
        for (int i = 0; i <= 50; i++) {
            DUE.is("get(" + i + ")", z.get(i, false), twin.get(i, false));
        }
        for (int what = 0; what <= 8; what++) {
            DUE.is("told(" + what + ")", z.told(what), twin.told(what));
        }
        for (int r = 0; r < 8; r++) {
            DUE.is("left(" + r + ")", z.left(r), twin.left(r));
        }
        DUE.is("printed(1)", z.printed(1), twin.printed(1));
        for (int i = 0; i < 51; i++) {
            DUE.is("random(1000)", z.random(1000), twin.random(1000));
        }
        DUE.is("put(29)", z.put(29, 0, false, false), 1);
        DUE.is("put(30)", z.put(30, 0, false, false), -13);
        DUE.is("run", z.run(0, 0, 0), 0);
        DUE.is("told(1)", z.told(1), 1);
        DUE.is("told(3)", z.told(3), 1);
        DUE.is("globe", z.globe(0), 10);
        DUE.is("form", z.form(0), 2);
    }

    public static void main(String[] args) {
        newObject();
        sizes();
        gets();
        puts();
        works();
        copies();
        looks();
        randoms();
        tapes();
        globes();
        forms();
        instructions();
        routines();
        clears();
        runs();
        tells();
        prints();
        leavings();
        refusalsChangeNothing();
        DUE.end();
    }
}
