/**
 * The terms of INSTRUCTIONS, VARIABLES, OPS, ROUTINES, THROWN and RUN: each sentence that names an edge has a test
 * of its own here. A Story has 60 bytes, 40 of which can be written, and GLOBALS from 20 on.
 */
public final class RunEdgesTest {
    private static final Due DUE = new Due();
    private static final int STACK = Story.STACK;
    private static final int[] RETURN_STACK = Story.in(21, STACK);

    private static int[] in(int op, int a, int b, int c, int store) {
        return Story.in(op, a, b, c, store);
    }

    private static int[] in(int op, int a) {
        return Story.in(op, a);
    }

    private static int variable(int k) {
        return Story.variable(k);
    }

    private static Story story(String name, int[]... instructions) {
        return new Story(DUE, name, instructions);
    }

    private static Story returns(String name, int want, int[]... instructions) {
        return Story.returning(DUE, name, want, instructions);
    }

    private static Story faults(String name, int want, int[]... instructions) {
        return Story.faulting(DUE, name, want, instructions);
    }

    /** The INSTRUCTION so many times, then the others. */
    private static int[][] times(int many, int[] instruction, int[]... others) {
        int[][] all = new int[many + others.length][];
        for (int i = 0; i < all.length; i++) {
            all[i] = i < many ? instruction : others[i - many];
        }
        return all;
    }

    // INSTRUCTIONS, OPERANDS, VARIABLES

    private static void hundredInstructions() {
        DUE.about("INSTRUCTIONS 0, 1, .. (100 at most)");
        Story s = story("100", times(99, in(13, 99), in(21, 5)));
        DUE.is("told(7)", s.z.told(7), 100);
        DUE.is("one more", s.z.instruction(21, 6, 0, 0, -1), -3);
        s.routine(0, 0, 0, false).runs(0, 0, 0, 0).told(1, 5).told(0, 2);
        s.routine(0, 99, 0, false).runs(0, 0, 0, 0).told(1, 5).told(0, 1);
        story("behind the hundredth", times(99, in(13, 99), in(22, 5))).routine(0, 0, 0, false).runs(0, 0, 0, 2).told(2, 10).told(0, 3);
    }

    private static void operandsAreWords() {
        DUE.about("An OPERAND 0 .. 65535 is that WORD; -1 - k is VARIABLE k");
        returns("0", 0, in(21, 0));
        returns("65535", -1, in(21, 65535));
        returns("-1: the stack", 5, in(22, 5), in(21, -1));
        returns("-2: LOCAL 1", 7, in(21, -2));
        returns("-3: LOCAL 2", 9, in(21, -3));
        faults("-16: LOCAL 15", 7, in(21, -16));
        returns("-17: GLOBAL 16", 0x0102, in(18, 20, 0, 0x0102, -1), in(21, -17));
        Story s = story("-256: GLOBAL 255", in(21, -256)).routine(0, 0, 0, false);
        s.z.size(2000, 0);
        s.z.put(20 + 2 * 239, 0x0304, true, true);
        s.runs(0, 0, 0, 0).told(1, 0x0304);
    }

    private static void theStackIsVariableZero() {
        DUE.about("0 the stack (asked: the uppermost goes; set: one comes)");
        returns("the uppermost", 6, in(22, 5), in(22, 6), in(21, STACK));
        returns("it goes", 5, in(22, 5), in(22, 6), in(23, 1), in(21, STACK));
        returns("set", 3, in(0, 1, 2, 0, 0), in(21, STACK));
        returns("set on top", -1, in(22, 4), in(0, 1, 2, 0, 0), in(1, STACK, STACK, 0, 0), in(21, STACK));
        faults("nothing there", 4, in(21, STACK));
        faults("all went", 4, in(22, 5), in(0, STACK, STACK, 0, 0));
    }

    private static void locals() {
        DUE.about("1 .. 15 LOCALS of the ROUTINE under way");
        int[][] last = {in(0, variable(1), variable(2), 0, 15), in(21, variable(15))};
        story("15 of 15", last).routine(0, 0, 15, false).runs(0, 3, 4, 0).told(1, 7);
        story("15 of 14", last).routine(0, 0, 14, false).runs(0, 3, 4, 2).told(2, 7);
        story("1 of none", in(21, variable(1))).routine(0, 0, 0, false).runs(0, 3, 4, 2).told(2, 7);
        story("2 of one", in(21, variable(2))).routine(0, 0, 1, false).runs(0, 3, 4, 2).told(2, 7);
        story("1 of one", in(21, variable(1))).routine(0, 0, 1, false).runs(0, 3, 4, 0).told(1, 3);
        story("14 of none", in(14, 1)).routine(0, 0, 0, false).runs(0, 3, 4, 2).told(2, 7);
        story("23 into 1 of none", in(22, 1), in(23, 1)).routine(0, 0, 0, false).runs(0, 3, 4, 2).told(2, 7);
        story("STORE 1 of none", in(0, 1, 1, 0, 1)).routine(0, 0, 0, false).runs(0, 3, 4, 2).told(2, 7);
    }

    private static void globals() {
        DUE.about("16 .. 255 GLOBALS: the WORD at GLOBE and 2 (k - 16)");
        returns("16", 5, in(0, 2, 3, 0, 16), in(21, variable(16))).has(20, true, 5);
        returns("25, the last that can be written", 5, in(0, 2, 3, 0, 25), in(21, variable(25))).has(38, true, 5);
        faults("26 is STATIC", 3, in(0, 2, 3, 0, 26)).has(40, true, 0);
        returns("26 can be asked", 0, in(21, variable(26)));
        returns("35, the last of all", 0, in(21, variable(35)));
        faults("36 is OUTSIDE", 2, in(21, variable(36)));
        faults("255 is OUTSIDE", 2, in(0, 2, 3, 0, 255));
        Story s = story("at an odd GLOBE", in(0, 2, 3, 0, 16), in(21, variable(17))).routine(0, 0, 0, false);
        DUE.is("globe", s.z.globe(39), 20);
        s.runs(0, 0, 0, 2).told(2, 3).has(39, true, 0);
        DUE.is("globe", s.z.globe(59), 39);
        s.runs(0, 0, 0, 2).told(2, 2);
        DUE.is("globe", s.z.globe(37), 59);
        s.runs(0, 0, 0, 0).told(1, 0).has(37, true, 5);
    }

    private static void operandsFromTheFirstOn() {
        DUE.about("The OPERANDS that an OP has are worked from the first on");
        faults("the first's FAULT, not the second's", 7, in(0, variable(4), STACK, 0, 0));
        faults("the second's FAULT, not the third's", 4, in(18, 0, STACK, variable(4), -1));
        faults("the third's FAULT", 7, in(18, 0, 0, variable(4), -1));
        returns("three of the stack", 0, in(22, 9), in(22, 2), in(22, 3), in(18, STACK, STACK, STACK, -1), in(21, 0)).has(7, true, 9);
        faults("OPERANDS ahead of by 0", 7, in(3, variable(4), 0, 0, 0));
        faults("by 0 ahead of what the third would be", 1, in(3, 1, 0, STACK, 0));
    }

    /** An OP's OPERANDS that it has not are not worked: they would be FAULT 7. */
    private static void operandsThatAnOpHas() {
        DUE.about("The OPERANDS that an OP has");
        int[] have = {2, 2, 2, 2, 2, 2, 2, 1, 2, 2, 3, 3, 3, 1, 1, 1, 2, 2, 3, 3, 3, 1, 1, 1, 0, 2, 3, 3, 1, 1, 1, 3, 0};
        for (int op = 0; op < have.length; op++) {
            for (int i = 0; i < 3; i++) {
                int[] bad = in(op, i == 0 ? variable(4) : 1, i == 1 ? variable(4) : 1, i == 2 ? variable(4) : 1, -1);
                Story s = story("OP " + op + ", OPERAND " + i, in(22, 1), bad, in(21, 1)).routine(0, 0, 3, false).routine(1, 2, 0, false);
                s.z.run(0, 0, 0);
                DUE.is("OP " + op + ", OPERAND " + i + " is worked", s.z.told(2) == 7 ? 1 : 0, i < have[op] ? 1 : 0);
            }
        }
    }

    private static void storeComesLast() {
        DUE.about("then what it does; then, if it tells something, STORE (-1: no one) gets it");
        faults("by 0 ahead of STORE", 1, in(3, 1, 0, 0, 4));
        faults("OUTSIDE ahead of STORE", 2, in(17, 60, 0, 0, 4));
        faults("STORE", 7, in(3, 1, 1, 0, 4));
        Story s = story("RANDOM was, though STORE faults", in(28, 50, 0, 0, 4)).routine(0, 0, 3, false);
        s.z.random(-9);
        s.runs(0, 0, 0, 2).told(2, 7);
        DUE.is("the next of THE COUNT", s.z.random(50), 2);
        faults("no one gets it", 4, in(0, 1, 2, 0, -1), RETURN_STACK);
        story("no one gets what was called for", in(20, 1, 0, 0, -1), RETURN_STACK, in(21, 5)).routine(0, 0, 0, false)
            .routine(1, 2, 0, false).runs(0, 0, 0, 2).told(2, 4);
    }

    /** Each OP that tells something is left to STORE in LOCAL 4 of 3, the others do not STORE. */
    private static void opsThatTell() {
        DUE.about("if it tells something");
        boolean[] tells = new boolean[33];
        for (int op : new int[] {0, 1, 2, 3, 4, 5, 6, 7, 8, 9, 16, 17, 20, 24, 27, 28}) {
            tells[op] = true;
        }
        for (int op = 0; op < 33; op++) {
            Story s = story("OP " + op, in(22, 1), in(op, 1, 2, 3, 4), in(21, 1), in(21, 1)).routine(0, 0, 3, false).routine(1, 2, 0, false);
            s.z.run(0, 0, 0);
            DUE.is("OP " + op + " tells", s.z.told(2) == 7 ? 1 : 0, tells[op] ? 1 : 0);
        }
    }

    // OPS

    private static void arithmetic() {
        DUE.about("0 to 9 ARITHMETIC of a, b (7: a)");
        int[][] rows = {{0, 32767, 1, -32768}, {1, 32768, 1, 32767}, {2, 65535, 65535, 1}, {3, 65529, 2, -3}, {3, 7, 65534, -3}, {3, 32768, 65535, -32768},
            {4, 65529, 2, -1}, {4, 7, 65534, 1}, {5, 65535, 32768, -32768}, {6, 32768, 1, -32767}, {7, 32767, 0, -32768},
            {8, 65535, 32768, -1}, {8, 1, 32767, -32768}, {8, 3, 65535, 1}, {9, 65535, 65521, 1}, {9, 65535, 65520, 0}, {9, 1, 15, -32768}, {9, 1, 16, 0}};
        for (int[] row : rows) {
            returns("OP " + row[0] + " of " + row[1] + ", " + row[2], row[3], in(row[0], row[1], row[2], 0, 0), RETURN_STACK);
        }
    }

    private static void drawing() {
        DUE.about("28 tells RANDOM of a");
        returns("of 65535: THE COUNT of one", 1, in(28, 65535, 0, 0, 1), in(28, 9, 0, 0, 1), in(28, 9, 0, 0, 1), in(21, variable(1)));
        returns("of 64537: THE COUNT of 999", 2, in(28, 64537, 0, 0, 1), in(28, 9, 0, 0, 1), in(28, 9, 0, 0, 1), in(21, variable(1)));
        returns("of 64536: THE SEED 1000", 3, in(28, 64536, 0, 0, 1), in(28, 10, 0, 0, 1), in(21, variable(1)));
        returns("of 65535 tells 0", 0, in(28, 65535, 0, 0, 1), in(21, variable(1)));
        returns("of 0 tells 0", 0, in(28, 0, 0, 0, 1), in(21, variable(1)));
        returns("of 32767: THE SEED 1", 16839, in(28, 32767, 0, 0, 1), in(21, variable(1)));
    }

    private static void comparing() {
        DUE.about("10 if a is b, on at INSTRUCTION c  11 if a < b, likewise  12 if a > b, likewise (as NUMBERS)");
        int[] one = in(21, 1);
        int[] two = in(21, 2);
        returns("10: 65535 is 65535", 2, in(10, 65535, 65535, 2, -1), one, two);
        returns("10: 0 is not 65535", 1, in(10, 0, 65535, 2, -1), one, two);
        returns("11: 32768 < 32767", 2, in(11, 32768, 32767, 2, -1), one, two);
        returns("11: 32767 is not < 32768", 1, in(11, 32767, 32768, 2, -1), one, two);
        returns("11: 32767 is not < 32767", 1, in(11, 32767, 32767, 2, -1), one, two);
        returns("11: 65535 < 0", 2, in(11, 65535, 0, 2, -1), one, two);
        returns("12: 32767 > 32768", 2, in(12, 32767, 32768, 2, -1), one, two);
        returns("12: 32768 is not > 32767", 1, in(12, 32768, 32767, 2, -1), one, two);
        returns("12: 32768 is not > 32768", 1, in(12, 32768, 32768, 2, -1), one, two);
        faults("on at one that is none", 10, in(10, 0, 0, 3, -1), one, two).told(0, 2);
        faults("on at 65535", 10, in(11, 0, 1, 65535, -1), one, two).told(0, 2);
        returns("on at itself, until it is not so", 2, in(15, 1), in(12, variable(1), 0, 0, -1), two).told(0, 15);
    }

    private static void goingOn() {
        DUE.about("13 on at a; 10 an INSTRUCTION that is none");
        returns("13", 2, in(13, 2), in(21, 1), in(21, 2));
        faults("13 at the number of INSTRUCTIONS", 10, in(13, 1)).told(0, 2);
        faults("13 at 100", 10, in(13, 100)).told(0, 2);
        faults("13 at 65535", 10, in(13, 65535)).told(0, 2);
        faults("behind the last", 10, in(22, 1)).told(0, 2);
        story("none at all").routine(0, 0, 0, false).runs(0, 0, 0, 2).told(2, 10).told(0, 1);
    }

    private static void oneMoreOneLess() {
        DUE.about("14 VARIABLE a becomes 1 more, 15 1 less (a is a number of one: its lowest 8 bits)");
        returns("14 of 65535", 0, in(0, 65535, 0, 0, 1), in(14, 1), in(21, variable(1)));
        returns("14 of 32767", -32768, in(0, 32767, 0, 0, 1), in(14, 1), in(21, variable(1)));
        returns("15 of 0", -1, in(0, 0, 0, 0, 1), in(15, 1), in(21, variable(1)));
        returns("15 of 32768", 32767, in(0, 32768, 0, 0, 1), in(15, 1), in(21, variable(1)));
        returns("14, 257", 8, in(14, 257), in(21, variable(1)));
        returns("15, 65281", 6, in(15, 65281), in(21, variable(1)));
        returns("14, 256: the stack", 5, in(22, 4), in(14, 256), RETURN_STACK);
        faults("14, 65535: GLOBAL 255", 2, in(14, 65535));
        faults("14, STATIC", 3, in(14, 26));
    }

    private static void uppermostStays() {
        DUE.about("the stack's uppermost stays where it is");
        returns("14", -4, in(22, 5), in(22, 1), in(14, 0), in(1, STACK, STACK, 0, 0), in(0, STACK, 65535, 0, 0), RETURN_STACK);
        faults("no more are there", 4, in(22, 5), in(14, 0), in(23, 1), RETURN_STACK);
        faults("none is there", 4, in(14, 0));
        faults("none is there, 15", 4, in(15, 0));
    }

    private static void theStackHasHundred() {
        DUE.about("4 the stack has nothing (of this frame); 5 it has 100");
        int[][] pushes = {in(22, 3), in(15, 1), in(12, variable(1), 0, 0, -1), in(14, 0), RETURN_STACK};
        story("99", pushes).routine(0, 0, 1, false).runs(0, 99, 0, 0).told(1, 4).told(0, 299);
        Story s = story("98 and one", times(49, in(22, 6), in(15, 1), in(12, variable(1), 0, 0, -1), in(22, 7))).routine(0, 0, 1, false);
        s.runs(0, 2, 0, 2).told(2, 10).told(0, 104);
        s.z.instruction(22, 8, 0, 0, -1);
        s.runs(0, 2, 0, 2).told(2, 10).told(0, 105);
        s.z.instruction(14, 0, 0, 0, -1);
        s.runs(0, 2, 0, 2).told(2, 10).told(0, 106);
        s.z.instruction(22, 9, 0, 0, -1);
        s.runs(0, 2, 0, 2).told(2, 5).told(0, 106);
        story("STORE on 99", times(1, in(22, 1), in(15, 1), in(12, variable(1), 0, 0, -1), in(0, 1, 1, 0, 0))).routine(0, 0, 1, false)
            .runs(0, 99, 0, 2).told(2, 10).told(0, 299);
        story("STORE on 100", times(50, in(22, 1), in(15, 1), in(12, variable(1), 0, 0, -1), in(0, 1, 1, 0, 0))).routine(0, 0, 1, false)
            .runs(0, 2, 0, 2).told(2, 5).told(0, 105);
        story("100 of two frames", times(50, in(22, 1), in(20, 1, 0, 0, -1), in(21, 0), in(0, 49, 0, 0, 1), in(22, 2), in(15, 1), in(12, variable(1), 0, 53, -1),
            in(22, 3), in(22, 4), in(21, 0))).routine(0, 0, 0, false).routine(1, 52, 1, false).runs(0, 0, 0, 2).told(2, 5).told(0, 51 + 1 + 147 + 2);
    }

    private static void reading() {
        DUE.about("16 tells the WORD at a and 2 b, 17 the byte at a and b (b of 16 to 19 is a NUMBER.)");
        int[] fill = in(18, 58 - 20, 0, 0x0102, -1);
        returns("16 at 38", 0x0102, fill, in(16, 38, 0, 0, 0), RETURN_STACK);
        returns("16 at 58, the last", 0, in(16, 58, 0, 0, 0), RETURN_STACK);
        faults("16 at 59", 2, in(16, 59, 0, 0, 0));
        returns("16 at 40 and -2", 0x0102, fill, in(16, 40, 65535, 0, 0), RETURN_STACK);
        faults("16 at 1 and -2", 2, in(16, 1, 65535, 0, 0));
        returns("16 at 2 and -2", 0, in(16, 2, 65535, 0, 0), RETURN_STACK);
        faults("16 at 65535 and 2 * -32768", 2, in(16, 65535, 32768, 0, 0));
        returns("17 at 59, the last", 0, in(17, 59, 0, 0, 0), RETURN_STACK);
        faults("17 at 60", 2, in(17, 60, 0, 0, 0));
        returns("17 at 40 and -1", 2, fill, in(17, 40, 65535, 0, 0), RETURN_STACK);
        returns("17 at 32768 and -32768", 0, in(17, 32768, 32768, 0, 0), RETURN_STACK);
        faults("17 at 32767 and -32768", 2, in(17, 32767, 32768, 0, 0));
    }

    private static void writing() {
        DUE.about("18 the WORD at a and 2 b becomes c, 19 the byte at a and b (b of 16 to 19 is a NUMBER.)");
        returns("18 at 38", 0, in(18, 38, 0, 65535, -1), in(21, 0)).has(38, true, 65535);
        faults("18 at 39: 3 of its second byte", 3, in(18, 39, 0, 65535, -1)).has(39, false, 0);
        faults("18 at 40", 3, in(18, 40, 0, 65535, -1));
        faults("18 at 59: 2 ahead of 3", 2, in(18, 59, 0, 65535, -1));
        faults("18 at 1 and -2", 2, in(18, 1, 65535, 65535, -1));
        returns("18 at 40 and -2", 0, in(18, 40, 65535, 65535, -1), in(21, 0)).has(38, true, 65535);
        returns("19 at 39", 0, in(19, 39, 0, 65535, -1), in(21, 0)).has(39, false, 255).has(38, false, 0).has(40, false, 0);
        faults("19 at 40", 3, in(19, 40, 0, 1, -1)).has(40, false, 0);
        faults("19 at 59", 3, in(19, 59, 0, 1, -1));
        faults("19 at 60", 2, in(19, 60, 0, 1, -1));
        faults("19 at 0 and -1", 2, in(19, 0, 65535, 1, -1));
        returns("19 at 40 and -1", 0, in(19, 40, 65535, 7, -1), in(21, 0)).has(39, false, 7);
    }

    private static void pulling() {
        DUE.about("23 the uppermost goes, into VARIABLE a (lowest 8 bits)");
        returns("257", 5, in(22, 5), in(23, 257), in(21, variable(1)));
        returns("256: the stack", 5, in(22, 5), in(23, 256), RETURN_STACK);
        returns("it goes", 4, in(22, 4), in(22, 5), in(23, 1), RETURN_STACK);
        returns("into a GLOBAL", 5, in(22, 5), in(23, 272), in(21, variable(16))).has(20, true, 5);
        faults("nothing there", 4, in(23, 1));
        faults("nothing there, ahead of 7", 4, in(23, 4));
        faults("65535: GLOBAL 255", 2, in(22, 5), in(23, 65535));
    }

    private static void printing() {
        DUE.about("29 prints a as a NUMBER (by 11 what came before stays)  30 prints character a (its lowest 8 bits)");
        returns("29", 0, in(29, 0), in(30, 32), in(29, 32767), in(30, 32), in(29, 32768), in(30, 32), in(29, 65535), in(21, 0))
            .printed("0 32767 -32768 -1");
        returns("29, tens", 0, in(29, 9), in(29, 10), in(29, 99), in(29, 100), in(29, 1000), in(29, 10000), in(29, 10001), in(21, 0))
            .printed("91099100100010000" + "10001");
        returns("30", 0, in(30, 255), in(30, 256), in(30, 65535), in(21, 0)).printed("\u00ff\0\u00ff");
        String most = "\n".repeat(119);
        returns("30, the 120th", 0, in(31, 0, 0, 120, -1), in(30, 65), in(21, 0)).printed(most + "A");
        faults("30, the 121st", 11, in(31, 0, 0, 120, -1), in(30, 65), in(30, 66)).printed(most + "A");
        returns("29, the 120th", 0, in(31, 0, 0, 120, -1), in(29, 7), in(21, 0)).printed(most + "7");
        faults("29, the 120th and more", 11, in(31, 0, 0, 120, -1), in(29, 65516)).printed(most + "-");
        faults("29, the 120th and more, above 0", 11, in(31, 0, 0, 120, -1), in(29, 32)).printed(most + "3");
        faults("29, the 121st", 11, in(31, 0, 0, 121, -1), in(29, 5)).printed(most + "\n");
    }

    private static void printingRows() {
        DUE.about("31 prints c rows of b bytes from a on, a 10 between two rows; 11 what is printed has 120 characters");
        returns("the last row", 0, in(31, 56, 2, 2, -1), in(21, 0)).printed("\0\0\n\0\0");
        faults("OUTSIDE in the last row", 2, in(31, 57, 2, 2, -1)).printed("\0\0\n\0");
        faults("OUTSIDE at once", 2, in(31, 60, 1, 1, -1)).printed("");
        returns("60 and 59", 0, in(31, 0, 60, 1, -1), in(31, 0, 1, 30, -1), in(30, 65), in(21, 0)).told(5, 120);
        faults("60, 59 and one", 11, in(31, 0, 60, 1, -1), in(31, 0, 1, 30, -1), in(30, 65), in(31, 0, 1, 1, -1)).told(5, 120);
        faults("a 10 is the 121st", 11, in(31, 0, 60, 1, -1), in(31, 0, 60, 2, -1)).told(5, 120);
        faults("a byte is the 121st", 11, in(31, 0, 59, 1, -1), in(31, 0, 30, 2, -1), in(31, 0, 1, 2, -1)).told(5, 120);
    }

    private static void endingAtOnce() {
        DUE.about("32 the RUN ends at once");
        story("at once", in(20, 1, 0, 0, 9), in(21, 1), in(32, variable(9), variable(9), variable(9), 9), in(21, 5)).routine(0, 0, 0, true)
            .routine(1, 2, 0, true).runs(0, 0, 0, 1).told(0, 2).told(1, 0).told(2, 0).told(3, 0).told(4, 0).left(0, 1).left(1, 1);
    }

    private static void anotherOp() {
        DUE.about("Another OP: FAULT 10");
        for (int op : new int[] {33, 34, 255, 256, -1, -2, Integer.MIN_VALUE, Integer.MAX_VALUE}) {
            faults("OP " + op, 10, in(op, 0, 0, 0, -1), in(21, 1)).told(0, 1);
            faults("OP " + op + " works no OPERAND", 10, in(op, variable(9), STACK, STACK, 9)).told(0, 1);
        }
    }

    // ROUTINES, THROWN, RUN

    private static void routinesThatAreNone() {
        DUE.about("CALLED: FAULT 9, then 6, if 12 frames are under way");
        story("7", in(20, 7, 0, 0, 1), in(21, variable(1)), in(21, 5)).routine(0, 0, 1, false).routine(7, 2, 0, false).runs(0, 0, 0, 0).told(1, 5);
        faults("7, not told", 9, in(20, 7, 0, 0, 1));
        faults("8", 9, in(20, 8, 0, 0, 1));
        faults("65535", 9, in(20, 65535, 0, 0, 1));
        int[][] deep = {in(10, variable(1), 0, 4, -1), in(15, 1), in(20, 0, variable(1), 0, 2), in(21, variable(2)), in(20, 1, 0, 0, 2), in(21, 9)};
        story("the 12th calls another", deep).routine(0, 0, 2, false).routine(1, 5, 0, false).runs(0, 11, 0, 2).told(2, 6).told(6, 12);
        story("the 12th is called", deep).routine(0, 0, 2, false).routine(1, 5, 0, false).runs(0, 10, 0, 0).told(1, 9).told(6, 12);
        story("the 12th calls none", deep).routine(0, 0, 2, false).runs(0, 11, 0, 2).told(2, 9).told(6, 12);
    }

    private static void twelveFrames() {
        DUE.about("6 DEEP, if 12 frames are under way");
        int[][] deep = {in(10, variable(1), 0, 4, -1), in(15, 1), in(20, 0, variable(1), 0, 2), in(21, variable(2)), in(24, 0, 0, 0, 2), in(21, variable(2))};
        story("12", deep).routine(0, 0, 2, false).runs(0, 11, 0, 0).told(1, 11).told(6, 12).left(0, 12);
        story("13", deep).routine(0, 0, 2, false).runs(0, 12, 0, 2).told(2, 6).told(6, 12).left(0, 12);
        story("13, guarded", deep).routine(0, 0, 2, true).runs(0, 12, 0, 0).told(1, 6).told(3, 1).told(6, 12).left(0, 12);
    }

    private static void localsOfACall() {
        DUE.about("its LOCALS are 0, but the first is b, the second c, if it has them");
        int[][] calls = {in(20, 1, 50, 60, 1), in(21, variable(1)), in(21, variable(1)), in(21, variable(2)), in(21, variable(3))};
        story("the first of one", calls).routine(0, 0, 1, false).routine(1, 2, 1, false).runs(0, 0, 0, 0).told(1, 50);
        story("the first of none", calls).routine(0, 0, 1, false).routine(1, 2, 0, false).runs(0, 0, 0, 2).told(2, 7);
        story("the second of two", calls).routine(0, 0, 1, false).routine(1, 3, 2, false).runs(0, 0, 0, 0).told(1, 60);
        story("the second of one", calls).routine(0, 0, 1, false).routine(1, 3, 1, false).runs(0, 0, 0, 2).told(2, 7);
        story("the third of three", calls).routine(0, 0, 1, false).routine(1, 4, 3, false).runs(0, 0, 0, 0).told(1, 0);
        story("0 again", in(20, 1, 1, 2, 1), in(20, 1, 1, 2, 1), in(21, variable(1)), in(0, variable(3), variable(15), 0, 2),
            in(14, 3), in(14, 15), in(21, variable(2))).routine(0, 0, 1, false).routine(1, 3, 15, false).runs(0, 0, 0, 0).told(1, 0);
        story("OPERANDS are worked also with no LOCALS", in(22, 3), in(22, 4), in(22, 5), in(20, 1, STACK, STACK, -1), RETURN_STACK, in(21, 0))
            .routine(0, 0, 0, false).routine(1, 5, 0, false).runs(0, 0, 0, 0).told(1, 3);
    }

    private static void numbersOfFrames() {
        DUE.about("a frame's number is how many were under way before it");
        int[][] program = {in(24, 0, 0, 0, 16), in(20, 1, 0, 0, 17), in(20, 2, 0, 0, 19), in(21, 0), in(24, 0, 0, 0, 18), in(20, 2, 0, 0, 20),
            in(24, 0, 0, 0, 21), in(21, variable(21)), in(24, 0, 0, 0, 1), in(21, variable(1))};
        story("numbers", program).routine(0, 0, 0, false).routine(1, 4, 0, false).routine(2, 8, 1, false).runs(0, 0, 0, 0)
            .has(20, true, 0).has(22, true, 1).has(24, true, 1).has(26, true, 1).has(28, true, 2).has(30, true, 1);
    }

    private static void whatIsLeftIsGone() {
        DUE.about("What it put on the stack and left there is gone when it returns");
        int[][] returned = {in(22, 5), in(20, 1, 0, 0, -1), RETURN_STACK, in(22, 6), in(22, 7), in(21, 1)};
        story("by a return", returned).routine(0, 0, 0, false).routine(1, 3, 0, false).runs(0, 0, 0, 0).told(1, 5);
        int[][] thrown = {in(22, 5), in(20, 1, 0, 0, -1), RETURN_STACK, in(22, 6), in(20, 2, 0, 0, -1), in(21, 0), in(22, 7), in(25, 1, 1, 0, -1)};
        story("by a throw", thrown).routine(0, 0, 0, false).routine(1, 3, 0, false).routine(2, 6, 0, false).runs(0, 0, 0, 0).told(1, 5).told(4, 1);
        int[][] guarded = {in(22, 5), in(20, 1, 0, 0, -1), RETURN_STACK, in(22, 6), in(20, 2, 0, 0, -1), in(21, 0), in(22, 7), in(3, 1, 0, 0, -1)};
        story("by a FAULT", guarded).routine(0, 0, 0, false).routine(1, 3, 0, true).routine(2, 6, 0, false).runs(0, 0, 0, 0).told(1, 5).told(3, 1);
        int[][] many = times(60, in(22, 1), in(21, 1), in(20, 1, 0, 0, -1), in(20, 1, 0, 0, -1), in(20, 1, 0, 0, -1), in(20, 1, 0, 0, -1), in(21, 9));
        story("there is room again", many).routine(0, 61, 0, false).routine(1, 0, 0, false).runs(0, 0, 0, 0).told(1, 9).told(0, 4 * 62 + 1);
        story("what was returned comes on top", in(22, 5), in(20, 1, 0, 0, 0), in(1, STACK, STACK, 0, 0), RETURN_STACK, in(22, 6), in(21, 8))
            .routine(0, 0, 0, false).routine(1, 4, 0, false).runs(0, 0, 0, 0).told(1, 3);
    }

    private static void whatLayBefore() {
        DUE.about("what lay there before, it can't reach");
        int[][] uses = {RETURN_STACK, in(14, 0), in(15, 0), in(23, 16), in(29, STACK)};
        for (int[] use : uses) {
            story("OP " + use[0], in(22, 5), in(20, 1, 0, 0, 1), RETURN_STACK, use).routine(0, 0, 1, false).routine(1, 3, 0, true)
                .runs(0, 0, 0, 0).told(1, 5).told(3, 1);
        }
        story("behind its own", in(22, 5), in(20, 1, 0, 0, 1), in(21, variable(1)), in(22, 6), in(0, STACK, STACK, 0, 0)).routine(0, 0, 1, false)
            .routine(1, 3, 0, true).runs(0, 0, 0, 0).told(1, 4);
    }

    private static void throwing() {
        DUE.about("that frame's ROUTINE, and all that it called, return: it returns what was THROWN");
        int[][] to = {in(20, 1, variable(1), 0, 3), in(0, variable(3), 100, 0, 3), in(21, variable(3)),
            in(20, 2, variable(1), 0, 3), in(0, variable(3), 10, 0, 3), in(21, variable(3)), in(25, 7, variable(1), 0, -1)};
        int[] returned = {7, 107, 117};
        for (int frame = 0; frame < 3; frame++) {
            story("to " + frame, to).routine(0, 0, 3, true).routine(1, 3, 3, true).routine(2, 6, 3, true).runs(0, frame, 0, 0)
                .told(1, returned[frame]).told(3, 0).told(4, 1).left(0, 1).left(1, 1).left(2, 1);
        }
        story("to 3, which is not", to).routine(0, 0, 3, false).routine(1, 3, 3, false).routine(2, 6, 3, false).runs(0, 3, 0, 2)
            .told(2, 8).told(4, 0).left(0, 1).left(1, 1).left(2, 1);
        story("to 65535", to).routine(0, 0, 3, false).routine(1, 3, 3, true).routine(2, 6, 3, false).runs(0, 65535, 0, 0)
            .told(1, 108).told(3, 1).told(4, 0);
        story("to one that returned", in(20, 1, 0, 0, 1), in(25, 5, variable(1), 0, -1), in(24, 0, 0, 0, 1), in(21, variable(1)))
            .routine(0, 0, 1, false).routine(1, 2, 1, false).runs(0, 0, 0, 2).told(2, 8);
    }

    private static void guarding() {
        DUE.about("up to the innermost that is GUARDED, which returns the FAULT's number");
        int[][] program = {in(20, 1, 0, 0, 1), in(0, variable(1), 100, 0, 1), in(21, variable(1)),
            in(20, 2, 0, 0, 1), in(0, variable(1), 10, 0, 1), in(21, variable(1)), in(3, 1, 0, 0, 1)};
        int[] returned = {1, 101, 111};
        for (int g = 0; g < 3; g++) {
            story("frame " + g, program).routine(0, 0, 1, true).routine(1, 3, 1, g > 0).routine(2, 6, 1, g > 1).runs(0, 0, 0, 0)
                .told(1, returned[g]).told(2, 0).told(3, 1).left(0, 1).left(1, 1).left(2, 1);
        }
        story("no one", program).routine(0, 0, 1, false).routine(1, 3, 1, false).routine(2, 6, 1, false).runs(0, 0, 0, 2)
            .told(1, 0).told(2, 1).told(3, 0).left(0, 1).left(1, 1).left(2, 1);
    }

    private static void eachFaultByItsNumber() {
        DUE.about("which returns the FAULT's number");
        int[][] bad = {in(3, 1, 0, 0, -1), in(17, 60, 0, 0, -1), in(19, 40, 0, 0, -1), RETURN_STACK, in(22, 1), in(20, 0, 0, 0, 0),
            in(21, variable(1)), in(25, 1, 12, 0, -1), in(20, 7, 0, 0, -1), in(33, 0), in(31, 0, 0, 122, -1)};
        for (int number = 1; number <= 11; number++) {
            int[][] program = {bad[number - 1], number == 5 ? in(13, 0) : RETURN_STACK};
            story("FAULT " + number, program).routine(0, 0, 0, true).runs(0, 0, 0, 0).told(1, number).told(2, 0).told(3, 1);
            story("FAULT " + number, program).routine(0, 0, 0, false).runs(0, 0, 0, 2).told(1, 0).told(2, number).told(3, 0);
        }
    }

    private static void runsWithTwoWords() {
        DUE.about("A RUN calls a ROUTINE, with two WORDS, and an empty stack");
        int[][] program = {in(22, 1), in(22, 2), in(21, variable(1)), in(21, variable(2)), in(21, STACK)};
        Story s = story("two WORDS", program).routine(0, 2, 2, false).routine(1, 3, 2, false).routine(2, 0, 2, false).routine(3, 4, 2, false);
        s.runs(0, 65535, 0, 0).told(1, -1).runs(0, 65536 + 3, 0, 0).told(1, 3).runs(0, Integer.MIN_VALUE, 0, 0).told(1, 0);
        s.runs(1, 0, -1, 0).told(1, -1).runs(1, 0, 65536 + 3, 0).told(1, 3).runs(1, 0, Integer.MAX_VALUE, 0).told(1, -1);
        s.runs(2, 0, 0, 0).runs(3, 0, 0, 2).told(2, 4);
    }

    private static void steps() {
        DUE.about("Each INSTRUCTION (also one that is none) is a STEP");
        story("one that is none", in(13, 50)).routine(0, 0, 0, false).runs(0, 0, 0, 2).told(0, 2);
        story("the first is none").routine(0, 99, 0, false).runs(0, 0, 0, 2).told(0, 1);
        story("another OP", in(99, 0)).routine(0, 0, 0, false).runs(0, 0, 0, 2).told(0, 1);
        story("an OPERAND's FAULT", RETURN_STACK).routine(0, 0, 0, false).runs(0, 0, 0, 2).told(0, 1);
        story("those of called ones", in(20, 1, 0, 0, -1), in(21, 0), in(13, 3), in(21, 0)).routine(0, 0, 0, false).routine(1, 2, 0, false)
            .runs(0, 0, 0, 0).told(0, 4);
    }

    private static void moreThan300() {
        DUE.about("3 SPENT: a STEP more than 300");
        int[][] turns = {in(15, 1), in(12, variable(1), 0, 0, -1), in(13, 3), in(21, 9)};
        story("300, the last returns", turns).routine(0, 0, 1, false).runs(0, 149, 0, 0).told(0, 300).told(1, 9);
        story("301", turns).routine(0, 0, 1, true).runs(0, 150, 0, 3).told(0, 300).told(1, 0).told(2, 0).told(3, 0).left(0, 1);
        int[][] ends = {in(15, 1), in(12, variable(1), 0, 0, -1), in(13, 3), in(32, 0)};
        story("300, the last is OP 32", ends).routine(0, 0, 1, false).runs(0, 149, 0, 1).told(0, 300);
        story("301 would be OP 32", ends).routine(0, 0, 1, false).runs(0, 150, 0, 3).told(0, 300);
        int[][] faults = {in(15, 1), in(12, variable(1), 0, 0, -1), in(13, 3), in(3, 1, 0, 0, -1)};
        story("300, the last faults", faults).routine(0, 0, 1, false).runs(0, 149, 0, 2).told(0, 300).told(2, 1);
        story("300, the last faults, guarded", faults).routine(0, 0, 1, true).runs(0, 149, 0, 0).told(0, 300).told(1, 1);
        story("301 would fault", faults).routine(0, 0, 1, true).runs(0, 150, 0, 3).told(0, 300).told(2, 0).told(3, 0);
        int[][] prints = {in(30, 65), in(13, 3), in(21, 1), in(15, 1), in(12, variable(1), 0, 3, -1), in(13, 0)};
        story("what was done stays", prints).routine(0, 0, 1, false).runs(0, 146, 0, 3).told(0, 300).printed("AA");
    }

    private static void thirteenth() {
        DUE.about("or the 13th FAULT and throw (both count) is to be");
        int[][] program = {in(20, 1, 0, 0, -1), in(15, 1), in(12, variable(1), 0, 0, -1), in(20, 2, 0, 0, -1), in(15, 2), in(12, variable(2), 0, 3, -1),
            in(21, 9), in(3, 1, 0, 0, -1), in(25, 5, 1, 0, -1)};
        for (int faults = 1; faults <= 12; faults++) {
            int throwsThen = 12 - faults;
            Story s = story(faults + " FAULTS", program).routine(0, 0, 2, false).routine(1, 7, 0, true).routine(2, 8, 0, false);
            if (throwsThen > 0) {
                s.runs(0, faults, throwsThen, 0).told(1, 9).told(3, faults).told(4, throwsThen).left(1, faults).left(2, throwsThen);
            }
            s.runs(0, faults, throwsThen + 1, 3).told(1, 0).told(2, 0).told(3, faults).told(4, throwsThen).left(0, 1).left(2, throwsThen + 1);
        }
        Story s = story("13 FAULTS", program).routine(0, 0, 2, false).routine(1, 7, 0, true).routine(2, 8, 0, false);
        s.runs(0, 13, 0, 3).told(3, 12).told(4, 0).told(1, 0).told(2, 0).left(0, 1).left(1, 13);
        s.runs(0, 1, 1, 0).told(3, 1).told(4, 1).told(1, 9);
    }

    private static void thirteenthAmongStores() {
        DUE.about("or the 13th FAULT is to be: also when what a guard returns can't be stored");
        int[][] program = {in(14, 16), in(12, variable(16), 1, 3, -1), in(20, 1, 0, 0, -1), in(20, 0, 0, 0, 9), in(21, 1), in(3, 1, 0, 0, -1)};
        story("12 in turn and one before", program).routine(0, 0, 0, true).routine(1, 5, 0, true).runs(0, 0, 0, 3)
            .told(1, 0).told(2, 0).told(3, 12).told(6, 12).left(0, 12).left(1, 1).has(20, true, 12)
            .runs(0, 0, 0, 0).told(1, 7).told(3, 12).left(0, 12).left(1, 0);
    }

    private static void eachIsLeft() {
        DUE.about("In any end each frame that was under way is LEFT");
        int[][] program = {in(20, 1, 0, 0, -1), in(21, 0), in(20, 2, 0, 0, -1), in(21, 0), in(32, 0), in(21, 0), in(3, 1, 0, 0, -1), in(13, 7), in(25, 1, 0, 0, -1)};
        int[][] ends = {{4, 1}, {5, 0}, {6, 2}, {7, 3}, {8, 0}};
        for (int[] end : ends) {
            story("end " + end[1] + " by " + end[0], program).routine(0, 0, 0, false).routine(1, 2, 0, false).routine(2, end[0], 0, false)
                .runs(0, 0, 0, end[1]).left(0, 1).left(1, 1).left(2, 1).left(3, 0).left(7, 0);
        }
    }

    public static void main(String[] args) {
        hundredInstructions();
        operandsAreWords();
        theStackIsVariableZero();
        locals();
        globals();
        operandsFromTheFirstOn();
        operandsThatAnOpHas();
        storeComesLast();
        opsThatTell();
        arithmetic();
        drawing();
        comparing();
        goingOn();
        oneMoreOneLess();
        uppermostStays();
        theStackHasHundred();
        reading();
        writing();
        pulling();
        printing();
        printingRows();
        endingAtOnce();
        anotherOp();
        routinesThatAreNone();
        twelveFrames();
        localsOfACall();
        numbersOfFrames();
        whatIsLeftIsGone();
        whatLayBefore();
        throwing();
        guarding();
        eachFaultByItsNumber();
        runsWithTwoWords();
        steps();
        moreThan300();
        thirteenth();
        thirteenthAmongStores();
        eachIsLeft();
        DUE.end();
    }
}
