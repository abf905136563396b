/** Promises 2 size, 3 get, 4 put. */
public final class MemoryTest {
    private static final int[] FAR = {-1, -2, 100, 65535, 65536, 65537, Integer.MAX_VALUE, Integer.MIN_VALUE};
    private static final Due DUE = new Due();

    private static void sizes() {
        ZMemory z = new ZMemory();
        DUE.is("size(-1, 0)", z.size(-1, 0), -2);
        DUE.is("size(2001, 0)", z.size(2001, 0), -2);
        DUE.is("size(5, -1)", z.size(5, -1), -2);
        DUE.is("size(5, 6)", z.size(5, 6), -2);
        DUE.is("size(MAX, MAX)", z.size(Integer.MAX_VALUE, Integer.MAX_VALUE), -2);
        DUE.is("get(0) after refusals", z.get(0, false), -12);
        DUE.is("size(2000, 2000)", z.size(2000, 2000), 1);
        DUE.is("put(1999)", z.put(1999, 9, false, false), 1);
        DUE.is("put(2000)", z.put(2000, 9, false, true), -12);
        DUE.is("size(2001, 3) changes nothing", z.size(2001, 3), -2);
        DUE.is("get(1999)", z.get(1999, false), 9);
        DUE.is("size(2000, 0)", z.size(2000, 0), 1);
        DUE.is("get(1999) is 0 again", z.get(1999, false), 0);
        DUE.is("put(0) with DYNAMIC 0", z.put(0, 9, false, false), -13);
        DUE.is("put(1500) shut", z.put(1500, 9, false, true), 1);
        DUE.is("size(0, 0)", z.size(0, 0), 1);
        DUE.is("get(0) with SIZE 0", z.get(0, false), -12);
        DUE.is("size(1600, 0)", z.size(1600, 0), 1);
        DUE.is("get(1500) is 0 again", z.get(1500, false), 0);
    }

    private static void bytes() {
        ZMemory z = new ZMemory();
        z.size(100, 50);
        for (int at : FAR) {
            DUE.is("get(" + at + ", false)", z.get(at, false), -12);
            DUE.is("put(" + at + ", 1, false, false)", z.put(at, 1, false, false), -12);
            DUE.is("put(" + at + ", 1, false, true)", z.put(at, 1, false, true), -12);
        }
        DUE.is("put(49, -1, false, false)", z.put(49, -1, false, false), 1);
        DUE.is("get(49, false)", z.get(49, false), 255);
        DUE.is("put(49, 256, false, false)", z.put(49, 256, false, false), 1);
        DUE.is("get(49, false)", z.get(49, false), 0);
        DUE.is("put(50, 5, false, false)", z.put(50, 5, false, false), -13);
        DUE.is("get(50, false) after a refusal", z.get(50, false), 0);
        DUE.is("put(50, 5, false, true)", z.put(50, 5, false, true), 1);
        DUE.is("get(50, false)", z.get(50, false), 5);
        DUE.is("put(99, 77, false, true)", z.put(99, 77, false, true), 1);
        DUE.is("get(99, false)", z.get(99, false), 77);
    }

    private static void words() {
        ZMemory z = new ZMemory();
        z.size(100, 50);
        for (int at : FAR) {
            DUE.is("get(" + at + ", true)", z.get(at, true), -12);
            DUE.is("put(" + at + ", 1, true, false)", z.put(at, 1, true, false), -12);
            DUE.is("put(" + at + ", 1, true, true)", z.put(at, 1, true, true), -12);
        }
        DUE.is("put(48, 0x12345678, true, false)", z.put(48, 0x12345678, true, false), 1);
        DUE.is("get(48, true)", z.get(48, true), 0x5678);
        DUE.is("get(48, false), the higher byte", z.get(48, false), 0x56);
        DUE.is("get(49, false), the lower byte", z.get(49, false), 0x78);
        DUE.is("put(0, -1, true, false)", z.put(0, -1, true, false), 1);
        DUE.is("get(0, true)", z.get(0, true), 65535);
        DUE.is("put(49, 1, true, false): its second byte", z.put(49, 1, true, false), -13);
        DUE.is("get(49, false) is not written alone", z.get(49, false), 0x78);
        DUE.is("put(49, 0x0102, true, true)", z.put(49, 0x0102, true, true), 1);
        DUE.is("get(49, true)", z.get(49, true), 0x0102);
        DUE.is("put(98, 0xABCD, true, true)", z.put(98, 0xABCD, true, true), 1);
        DUE.is("get(98, true)", z.get(98, true), 0xABCD);
        DUE.is("get(99, true)", z.get(99, true), -12);
        DUE.is("put(99, 1, true, false): 2 ahead of 3", z.put(99, 1, true, false), -12);
        DUE.is("put(99, 1, true, true)", z.put(99, 1, true, true), -12);
        DUE.is("get(99, false) is not written alone", z.get(99, false), 0xCD);
    }

    public static void main(String[] args) {
        sizes();
        bytes();
        words();
        DUE.end();
    }
}
