/**
 * The terms of MEMORY, ARITHMETIC, TO COPY, TO LOOK and RANDOM: each sentence that names an edge has a test of
 * its own here.
 */
public final class MemoryEdgesTest {
    private static final Due DUE = new Due();
    private static final int[] RETURN_STACK = Story.in(21, Story.STACK);

    private static int[] in(int op, int a, int b, int c, int store) {
        return Story.in(op, a, b, c, store);
    }

    /** 20 bytes 1 .. 20, the first 15 of which can be written. */
    private static ZMemory twenty() {
        ZMemory z = new ZMemory();
        z.size(20, 15);
        for (int i = 0; i < 20; i++) {
            z.put(i, i + 1, false, true);
        }
        return z;
    }

    private static void sizeAtFirst() {
        DUE.about("MEMORY has SIZE bytes (0 at first)");
        ZMemory z = new ZMemory();
        DUE.is("get(0)", z.get(0, false), -12);
        DUE.is("put(0)", z.put(0, 1, false, true), -12);
        z.size(1, 1);
        DUE.is("get(0) of one byte", z.get(0, false), 0);
        DUE.is("get(1) of one byte", z.get(1, false), -12);
        DUE.is("WORD at 0 of one byte", z.get(0, true), -12);
        z.size(2, 2);
        DUE.is("WORD at 0 of two bytes", z.get(0, true), 0);
        z.size(0, 0);
        DUE.is("get(0) of none again", z.get(0, false), -12);
    }

    private static void belowDynamic() {
        DUE.about("those below DYNAMIC can be written");
        ZMemory z = twenty();
        DUE.is("the last below it", z.put(14, 99, false, false), 1);
        DUE.is("DYNAMIC itself", z.put(15, 99, false, false), -13);
        DUE.is("the last of all", z.put(19, 99, false, false), -13);
        DUE.is("the last WORD below it", z.put(13, 0x0A0B, true, false), 1);
        DUE.is("a WORD over it", z.put(14, 0x0A0B, true, false), -13);
        DUE.is("get(14)", z.get(14, false), 0x0B);
        DUE.is("get(15)", z.get(15, false), 16);
        z.size(3, 3);
        DUE.is("all can be written", z.put(2, 7, false, false), 1);
        z.size(3, 0);
        DUE.is("none can be written", z.put(0, 7, false, false), -13);
    }

    private static void higherByteFirst() {
        DUE.about("WORDS have 16 bits, 0 .. 65535, the higher byte first");
        ZMemory z = twenty();
        DUE.is("WORD of 1, 2", z.get(0, true), 0x0102);
        z.put(3, 65535, true, false);
        DUE.is("the highest", z.get(3, true), 65535);
        DUE.is("its first byte", z.get(3, false), 255);
        z.put(3, 256, true, false);
        DUE.is("the first byte of 256", z.get(3, false), 1);
        DUE.is("the second byte of 256", z.get(4, false), 0);
    }

    private static void asNumbers() {
        DUE.about("read as NUMBERS they are -32768 .. 32767");
        ZMemory z = new ZMemory();
        DUE.is("32767", z.work(0, 32767, 0), 32767);
        DUE.is("32768", z.work(0, 32768, 0), -32768);
        DUE.is("65535", z.work(0, 65535, 0), -1);
        DUE.is("65536", z.work(0, 65536, 0), 0);
        DUE.is("-32769", z.work(0, -32769, 0), 32767);
        Story.returning(DUE, "32767 is returned", 32767, Story.in(21, 32767));
        Story.returning(DUE, "32768 is returned", -32768, Story.in(21, 32768));
    }

    private static void lowestBits() {
        DUE.about("What is stored as a WORD has its lowest 16 bits, as a byte its lowest 8");
        ZMemory z = twenty();
        DUE.is("65536 as a WORD", z.put(0, 65536, true, false), 1);
        DUE.is("65536 as a WORD", z.get(0, true), 0);
        DUE.is("-2 as a WORD", z.put(0, -2, true, false), 1);
        DUE.is("-2 as a WORD", z.get(0, true), 65534);
        DUE.is("256 as a byte", z.put(2, 256, false, false), 1);
        DUE.is("256 as a byte", z.get(2, false), 0);
        DUE.is("-2 as a byte", z.put(2, -2, false, false), 1);
        DUE.is("-2 as a byte", z.get(2, false), 254);
        DUE.is("MIN as a WORD", z.put(0, Integer.MIN_VALUE, true, false), 1);
        DUE.is("MIN as a WORD", z.get(0, true), 0);
        DUE.is("MAX as a byte, shut", z.put(19, Integer.MAX_VALUE, false, true), 1);
        DUE.is("MAX as a byte, shut", z.get(19, false), 255);
        int[] yes = Story.in(21, 2);
        int[] no = Story.in(21, 1);
        int local = Story.variable(3);
        Story.returning(DUE, "a LOCAL, OP 9", 2, in(9, 65535, 1, 0, 3), in(10, local, 65534, 3, -1), no, yes);
        Story.returning(DUE, "a LOCAL, OP 0", 2, in(0, 65535, 2, 0, 3), in(10, local, 1, 3, -1), no, yes);
        Story.returning(DUE, "a LOCAL, OP 1", 2, in(1, 0, 1, 0, 3), in(10, local, 65535, 3, -1), no, yes);
        Story.returning(DUE, "a LOCAL, OP 2", 2, in(2, 65535, 3, 0, 3), in(10, local, 65533, 3, -1), no, yes);
        Story.returning(DUE, "a LOCAL, OP 3", 2, in(3, 32768, 65535, 0, 3), in(10, local, 32768, 3, -1), no, yes);
        Story.returning(DUE, "a LOCAL, OP 4", 2, in(4, 65535, 3, 0, 3), in(10, local, 65535, 3, -1), no, yes);
        Story.returning(DUE, "a LOCAL, OP 7", 2, in(7, 0, 0, 0, 3), in(10, local, 65535, 3, -1), no, yes);
        Story.returning(DUE, "a LOCAL, OP 8", 2, in(8, 65535, 1, 0, 3), in(10, local, 65534, 3, -1), no, yes);
        Story.returning(DUE, "OP 19", 255, in(19, 0, 0, 65535, -1), in(17, 0, 0, 0, 0), RETURN_STACK).has(1, false, 0);
    }

    private static void notCut() {
        DUE.about("what is reckoned of an ADDRESS is not cut (60000 and 10000 is 70000)");
        Story.faulting(DUE, "OP 16, 65535 and 2", 2, in(16, 65535, 1, 0, 0));
        Story.faulting(DUE, "OP 16, 60000 and 2 * 3000", 2, in(16, 60000, 3000, 0, 0));
        Story.faulting(DUE, "OP 17, 65535 and 1", 2, in(17, 65535, 1, 0, 0));
        Story.faulting(DUE, "OP 17, 0 and -1", 2, in(17, 0, 65535, 0, 0));
        Story.faulting(DUE, "OP 18, 65535 and 2", 2, in(18, 65535, 1, 5, -1)).has(1, true, 0);
        Story.faulting(DUE, "OP 19, 65535 and 1", 2, in(19, 65535, 1, 5, -1)).has(0, false, 0);
        Story.faulting(DUE, "OP 31 from 65535 on", 2, in(31, 65535, 2, 1, -1)).printed("");
        ZMemory z = twenty();
        DUE.is("get(65536)", z.get(65536, false), -12);
        DUE.is("get(65536), a WORD", z.get(65536, true), -12);
        DUE.is("get(65535), a WORD", z.get(65535, true), -12);
        DUE.is("get(-65536)", z.get(-65536, false), -12);
        DUE.is("put(65536)", z.put(65536, 9, false, true), -12);
        DUE.is("put(65536), a WORD", z.put(65536, 9, true, true), -12);
        DUE.is("a GLOBAL behind 65535", z.globe(65535), 0);
        z.instruction(21, Story.variable(17), 0, 0, -1);
        z.routine(0, 0, 0, false);
        DUE.is("a GLOBAL behind 65535", z.run(0, 0, 0), 2);
        DUE.is("a GLOBAL behind 65535", z.told(2), 2);
    }

    private static void wordIsWrittenWhole() {
        DUE.about("a WORD is written when both bytes can be (2 of either byte ahead of 3 of either)");
        ZMemory z = twenty();
        DUE.is("the first STATIC, the second OUTSIDE", z.put(19, 0, true, false), -12);
        DUE.is("the first below 0", z.put(-1, 0, true, false), -12);
        DUE.is("the second STATIC", z.put(14, 0, true, false), -13);
        DUE.is("the first is not written", z.get(14, false), 15);
        z.size(5, 5);
        DUE.is("the first can be, the second is OUTSIDE", z.put(4, 0x0909, true, false), -12);
        DUE.is("the first is not written", z.get(4, false), 0);
        DUE.is("shut, the second is OUTSIDE", z.put(4, 0x0909, true, true), -12);
        DUE.is("the first is not written", z.get(4, false), 0);
    }

    private static void wrapping() {
        DUE.about("ARITHMETIC of two NUMBERS, wrapping: 0 a + b  1 a - b  2 a * b");
        ZMemory z = new ZMemory();
        DUE.is("32767 + 1", z.work(0, 32767, 1), -32768);
        DUE.is("-32768 + -1", z.work(0, -32768, -1), 32767);
        DUE.is("32767 + 0", z.work(0, 32767, 0), 32767);
        DUE.is("-32768 - 1", z.work(1, -32768, 1), 32767);
        DUE.is("32767 - -1", z.work(1, 32767, -1), -32768);
        DUE.is("0 - -32768", z.work(1, 0, -32768), -32768);
        DUE.is("-32768 * -1", z.work(2, -32768, -1), -32768);
        DUE.is("256 * 256", z.work(2, 256, 256), 0);
        DUE.is("-3 * 7", z.work(2, -3, 7), -21);
        DUE.is("-256 * 129", z.work(2, -256, 129), 32512);
        DUE.is("255 * 257", z.work(2, 255, 257), -1);
        DUE.is("181 * 181", z.work(2, 181, 181), 32761);
        DUE.is("182 * 182", z.work(2, 182, 182), -32412);
    }

    private static void dividing() {
        DUE.about("3 a / b  4 what is left over (towards 0, with a's sign; FAULT 1)");
        ZMemory z = new ZMemory();
        DUE.is("7 / -2", z.work(3, 7, -2), -3);
        DUE.is("-7 / 2", z.work(3, -7, 2), -3);
        DUE.is("-7 / -2", z.work(3, -7, -2), 3);
        DUE.is("-1 / 2", z.work(3, -1, 2), 0);
        DUE.is("-32768 / -1 wraps", z.work(3, -32768, -1), -32768);
        DUE.is("-32768 / -32768", z.work(3, -32768, -32768), 1);
        DUE.is("32767 / -32768", z.work(3, 32767, -32768), 0);
        DUE.is("7 left over by -2", z.work(4, 7, -2), 1);
        DUE.is("-7 left over by 2", z.work(4, -7, 2), -1);
        DUE.is("-7 left over by -2", z.work(4, -7, -2), -1);
        DUE.is("-32768 left over by -1", z.work(4, -32768, -1), 0);
        DUE.is("-32768 left over by 32767", z.work(4, -32768, 32767), -1);
        DUE.throwing("0 / 0", ArithmeticException.class, () -> z.work(3, 0, 0));
        DUE.throwing("0 left over by 0", ArithmeticException.class, () -> z.work(4, 0, 0));
        DUE.throwing("by 65536", ArithmeticException.class, () -> z.work(3, 5, 65536));
        Story.faulting(DUE, "OP 3", 1, in(3, 5, 0, 0, 0));
        Story.faulting(DUE, "OP 4", 1, in(4, 5, 0, 0, 0));
    }

    private static void bits() {
        DUE.about("5 and  6 or, bit by bit  7 the bits of a turned");
        ZMemory z = new ZMemory();
        DUE.is("-1 and 32767", z.work(5, -1, 32767), 32767);
        DUE.is("-32768 and 32767", z.work(5, -32768, 32767), 0);
        DUE.is("-32768 and -1", z.work(5, -32768, -1), -32768);
        DUE.is("-32768 or 32767", z.work(6, -32768, 32767), -1);
        DUE.is("0 or 0", z.work(6, 0, 0), 0);
        DUE.is("0 turned", z.work(7, 0, 0), -1);
        DUE.is("-32768 turned", z.work(7, -32768, 0), 32767);
        DUE.is("32767 turned, b is no matter", z.work(7, 32767, 12345), -32768);
    }

    private static void shiftingKeepingTheSign() {
        DUE.about("8 a shifted by b: b above 0 to the left, below 0 to the right, keeping the sign (beyond 15: as by 15)");
        ZMemory z = new ZMemory();
        DUE.is("by 0", z.work(8, -5, 0), -5);
        DUE.is("1 by 14", z.work(8, 1, 14), 16384);
        DUE.is("1 by 15", z.work(8, 1, 15), -32768);
        DUE.is("1 by 16", z.work(8, 1, 16), -32768);
        DUE.is("3 by 32", z.work(8, 3, 32), -32768);
        DUE.is("1 by 32767", z.work(8, 1, 32767), -32768);
        DUE.is("2 by 16", z.work(8, 2, 16), 0);
        DUE.is("-3 by 1", z.work(8, -3, 1), -6);
        DUE.is("-3 by -1", z.work(8, -3, -1), -2);
        DUE.is("16384 by -14", z.work(8, 16384, -14), 1);
        DUE.is("-32768 by -15", z.work(8, -32768, -15), -1);
        DUE.is("-32768 by -14", z.work(8, -32768, -14), -2);
        DUE.is("-1 by -16", z.work(8, -1, -16), -1);
        DUE.is("32767 by -32", z.work(8, 32767, -32), 0);
        DUE.is("-32768 by -32768", z.work(8, -32768, -32768), -1);
    }

    private static void shiftingBits() {
        DUE.about("9 likewise, a's bits coming as 0 (beyond 15: 0)");
        ZMemory z = new ZMemory();
        DUE.is("by 0", z.work(9, -5, 0), -5);
        DUE.is("1 by 15", z.work(9, 1, 15), -32768);
        DUE.is("1 by 16", z.work(9, 1, 16), 0);
        DUE.is("-1 by 15", z.work(9, -1, 15), -32768);
        DUE.is("-1 by 32", z.work(9, -1, 32), 0);
        DUE.is("-1 by -1", z.work(9, -1, -1), 32767);
        DUE.is("-1 by -15", z.work(9, -1, -15), 1);
        DUE.is("-1 by -16", z.work(9, -1, -16), 0);
        DUE.is("-1 by -32", z.work(9, -1, -32), 0);
        DUE.is("-1 by -32768", z.work(9, -1, -32768), 0);
    }

    private static void copied(int x, int y, int n, int answer, int... bytes) {
        ZMemory z = twenty();
        String call = "copy(" + x + ", " + y + ", " + n + ")";
        DUE.is(call, z.copy(x, y, n), answer);
        for (int i = 0; i < 20; i++) {
            DUE.is(call + " then get(" + i + ")", z.get(i, false), i < bytes.length ? bytes[i] : i + 1);
        }
    }

    private static void copyAllAtOnce() {
        DUE.about("n is 0 or more: those from x come to y as they were before, all at once");
        copied(1, 2, 5, 1, 1, 2, 2, 3, 4, 5, 6);
        copied(2, 1, 5, 1, 1, 3, 4, 5, 6, 7);
        copied(1, 1, 14, 1);
        copied(0, 1, 1, 1, 1, 1);
        copied(0, 1, 0, 1);
    }

    private static void copyOneByOne() {
        DUE.about("n below 0: as many (without sign), one by one from the first on, each as it is then");
        copied(1, 2, -5, 1, 1, 2, 2, 2, 2, 2, 2);
        copied(2, 1, -5, 1, 1, 3, 4, 5, 6, 7);
        copied(0, 2, -4, 1, 1, 2, 1, 2, 1, 2);
        copied(0, 1, -1, 1, 1, 1);
        copied(0, 1, 65535, 1, 1, 1);
    }

    private static void copyAskedBefore() {
        DUE.about("FAULT 2 (any byte of either, n not 0), 3 (any of those written) are asked before anything is done");
        copied(15, 1, 5, 1, 1, 16, 17, 18, 19, 20);
        copied(16, 1, 5, -12);
        copied(1, 16, 5, -12);
        copied(1, 10, 5, 1, 1, 2, 3, 4, 5, 6, 7, 8, 9, 10, 2, 3, 4, 5, 6);
        copied(1, 11, 5, -13);
        copied(16, 15, 5, -12);
        copied(1, 15, 5, -13);
        copied(20, 1, 1, -12);
        copied(1, 20, 1, -12);
        copied(1, 1, 32767, -12);
        copied(20, 20, 0, 1);
        copied(65535, 65535, 0, 1);
    }

    private static void copyAskedByteByByte() {
        DUE.about("(n below 0: byte by byte: those before it are done: first of x, then 2, 3 of y)");
        copied(18, 1, -3, -12, 1, 19, 20);
        copied(1, 13, -3, -13, 1, 2, 3, 4, 5, 6, 7, 8, 9, 10, 11, 12, 13, 2, 3);
        copied(20, 15, -1, -12);
        copied(1, 15, -1, -13);
        copied(1, 20, -1, -12);
        copied(19, 14, -2, -12, 1, 2, 3, 4, 5, 6, 7, 8, 9, 10, 11, 12, 13, 14, 20);
        copied(1, 15, -32768, -13);
        Story.faulting(DUE, "OP 26: those before it are done", 3, in(19, 0, 0, 9, -1), in(26, 0, 39, 65534, -1)).has(39, true, 0x0900);
        ZMemory z = new ZMemory();
        z.size(4, 4);
        z.put(0, 7, false, false);
        DUE.is("copy(0, 3, -2): 2 of y", z.copy(0, 3, -2), -12);
        DUE.is("copy(0, 3, -2), the first is done", z.get(3, false), 7);
    }

    private static void lookEntries() {
        DUE.about("entries have FORM's lowest 7 bits bytes; 128 and more: their first WORD is compared, else their first byte");
        ZMemory z = new ZMemory();
        z.size(600, 600);
        z.put(127, 0x0102, true, false);
        z.put(254, 0x0304, true, false);
        DUE.is("FORM 127", z.look(1, 0, 3, 127), 127);
        DUE.is("FORM 127, the third", z.look(3, 0, 3, 127), 254);
        DUE.is("FORM 255", z.look(0x0304, 0, 3, 255), 254);
        DUE.is("FORM 127 compares a byte", z.look(0x0102, 0, 3, 127), 0);
        DUE.is("FORM 255 compares a WORD", z.look(1, 0, 3, 255), 0);
        DUE.is("FORM 1", z.look(2, 0, 200, 1), 128);
        DUE.is("FORM 129", z.look(0x0200, 0, 200, 129), 128);
        DUE.is("FORM 128", z.look(0x0102, 127, 1, 128), 127);
        DUE.is("FORM 0", z.look(1, 127, 1, 0), 127);
    }

    private static void lookFirst() {
        DUE.about("the ADDRESS of the first that is like v, else 0 (an entry of 0 bytes: the same place again and again)");
        ZMemory z = twenty();
        z.put(9, 4, false, false);
        DUE.is("the first of two", z.look(4, 0, 20, 1), 3);
        DUE.is("the second, from behind the first on", z.look(4, 4, 16, 1), 9);
        DUE.is("none", z.look(10, 0, 20, 1), 0);
        DUE.is("one too few", z.look(4, 0, 3, 1), 0);
        DUE.is("just enough", z.look(4, 0, 4, 1), 3);
        DUE.is("0 bytes, like", z.look(4, 3, 9, 0), 3);
        DUE.is("0 bytes, not like", z.look(5, 3, 9, 0), 0);
        DUE.is("0 bytes, a WORD, like", z.look(0x0405, 3, 9, 128), 3);
        DUE.is("0 bytes, a WORD, not like", z.look(0x0506, 3, 9, 128), 0);
    }

    private static void lookOutside() {
        DUE.about("FAULT 2 when it comes to it");
        ZMemory z = twenty();
        DUE.is("20 entries", z.look(99, 0, 20, 1), 0);
        DUE.is("21 entries", z.look(99, 0, 21, 1), -12);
        DUE.is("found before", z.look(20, 0, 21, 1), 19);
        DUE.is("10 WORDS", z.look(99, 0, 10, 130), 0);
        DUE.is("11 WORDS", z.look(99, 0, 11, 130), -12);
        DUE.is("half a WORD", z.look(99, 1, 10, 130), -12);
        DUE.is("a WORD found before", z.look(0x1213, 1, 10, 130), 17);
        DUE.is("the rest of an entry is not asked", z.look(99, 19, 1, 127), 0);
        DUE.is("0 bytes, OUTSIDE", z.look(99, 20, 1, 0), -12);
        DUE.is("0 bytes, half a WORD", z.look(99, 19, 1, 128), -12);
        DUE.is("no entries", z.look(99, 20, 0, 1), 0);
        z.size(2000, 0);
        DUE.is("2000 entries", z.look(99, 0, 2000, 1), 0);
        DUE.is("2001 entries", z.look(99, 0, 2001, 1), -12);
        z.put(1999, 5, false, true);
        DUE.is("the last of 2000", z.look(5, 0, 2000, 1), 1999);
        DUE.is("the last WORD of 2000 bytes", z.look(5, 0, 2000, 129), 1998);
    }

    private static void randomBySeed() {
        DUE.about("THE SEED x, which becomes x * 1103515245 + 12345, its lowest 31 bits: (x >>> 16) % r + 1");
        ZMemory z = new ZMemory();
        DUE.is("THE SEED 1 at first counts", z.random(32767), 16838 + 1);
        DUE.is("of 1", z.random(1), 1);
        long x = 1;
        for (int i = 0; i < 2; i++) {
            x = (x * 1103515245L + 12345L) & 0x7FFFFFFFL;
        }
        for (int i = 0; i < 100; i++) {
            x = (x * 1103515245L + 12345L) & 0x7FFFFFFFL;
            int r = i % 2 == 0 ? 32767 : 2;
            DUE.is("random(" + r + "), time " + i, z.random(r), (int) ((x >>> 16) % r) + 1);
        }
    }

    private static void randomByCount() {
        DUE.about("THE COUNT (1 .. s, round and round: (the COUNT - 1) % r + 1)");
        ZMemory z = new ZMemory();
        DUE.is("random(-4)", z.random(-4), 0);
        int[] due = {1, 2, 3, 1, 1, 2, 3, 1, 1};
        for (int i = 0; i < due.length; i++) {
            DUE.is("random(3), time " + i, z.random(3), due[i]);
        }
        DUE.is("random(-1)", z.random(-1), 0);
        DUE.is("s 1", z.random(9), 1);
        DUE.is("s 1", z.random(9), 1);
        DUE.is("random(-5)", z.random(-5), 0);
        DUE.is("from 1 on", z.random(9), 1);
        DUE.is("then 2", z.random(9), 2);
        DUE.is("random(-5) again", z.random(-5), 0);
        DUE.is("from 1 on again", z.random(9), 1);
    }

    private static void randomBelowZero() {
        DUE.about("Below 0: s is -r: below 1000 THE COUNT from 1 on counts from now, else THE SEED, which is s; both answer 0");
        ZMemory z = new ZMemory();
        DUE.is("random(-999)", z.random(-999), 0);
        DUE.is("THE COUNT", z.random(32767), 1);
        DUE.is("THE COUNT", z.random(32767), 2);
        DUE.is("random(-1000)", z.random(-1000), 0);
        DUE.is("THE SEED", z.random(32767), seeded(1000));
        DUE.is("random(-32768)", z.random(-32768), 0);
        DUE.is("THE SEED", z.random(32767), seeded(32768));
        DUE.is("random(-32769) is 32767", z.random(-32769) > 0 ? 1 : 0, 1);
    }

    private static int seeded(int seed) {
        return (int) ((seed * 1103515245L + 12345L & 0x7FFFFFFFL) >>> 16) % 32767 + 1;
    }

    private static void countRoundIsWhole() {
        DUE.about("1 .. s, round and round");
        ZMemory z = new ZMemory();
        z.random(-300);
        for (int i = 1; i <= 300; i++) {
            DUE.is("s 300, time " + i, z.random(32767), i);
        }
        DUE.is("s 300, round", z.random(32767), 1);
    }

    private static void randomByTape() {
        DUE.about("of 0 THE TAPE; its next number t (it goes): t % r + 1");
        ZMemory z = new ZMemory();
        z.tape(0);
        z.tape(65535);
        z.tape(32767);
        DUE.is("random(0)", z.random(0), 0);
        DUE.is("of 0 no number goes", z.told(8), 3);
        DUE.is("t 0", z.random(7), 1);
        DUE.is("it goes", z.told(8), 2);
        DUE.is("t 65535 of 32767", z.random(32767), 65535 % 32767 + 1);
        DUE.is("t 32767 of 32767", z.random(32767), 1);
        DUE.is("all went", z.told(8), 0);
    }

    public static void main(String[] args) {
        sizeAtFirst();
        belowDynamic();
        higherByteFirst();
        asNumbers();
        lowestBits();
        notCut();
        wordIsWrittenWhole();
        wrapping();
        dividing();
        bits();
        shiftingKeepingTheSign();
        shiftingBits();
        copyAllAtOnce();
        copyOneByOne();
        copyAskedBefore();
        copyAskedByteByByte();
        lookEntries();
        lookFirst();
        lookOutside();
        randomBySeed();
        randomByCount();
        randomBelowZero();
        countRoundIsWhole();
        randomByTape();
        DUE.end();
    }
}
