/** Promise 6: copy. */
public final class CopyTest {
    private static final Due DUE = new Due();

    /** 20 bytes 1 .. 20, the first 15 of which can be written. */
    private static ZMemory fresh() {
        ZMemory z = new ZMemory();
        z.size(20, 15);
        for (int i = 0; i < 20; i++) {
            z.put(i, i + 1, false, true);
        }
        return z;
    }

    private static void copied(int x, int y, int n, int answer, int... bytes) {
        ZMemory z = fresh();
        String call = "copy(" + x + ", " + y + ", " + n + ")";
        DUE.is(call, z.copy(x, y, n), answer);
        for (int i = 0; i < 20; i++) {
            DUE.is(call + " then get(" + i + ")", z.get(i, false), i < bytes.length ? bytes[i] : i + 1);
        }
    }

    private static void atOnce() {
        copied(0, 1, 4, 1, 1, 1, 2, 3, 4);
        copied(1, 2, 1, 1, 1, 2, 2);
        copied(5, 1, 3, 1, 1, 6, 7, 8);
        copied(2, 1, 4, 1, 1, 3, 4, 5, 6);
        copied(15, 10, 5, 1, 1, 2, 3, 4, 5, 6, 7, 8, 9, 10, 16, 17, 18, 19, 20);
        copied(16, 10, 5, -12);
        copied(0, 10, 6, -13);
        copied(0, 15, 1, -13);
        copied(0, 15, 6, -12);
        copied(0, 20, 1, -12);
        copied(20, 15, 1, -12);
        copied(18, 14, 3, -12);
        copied(0, 19, 1, -13);
        copied(0, 17, 3, -13);
        copied(1, 1, 32767, -12);
        copied(65535, 1, 1, -12);
        copied(1, 65535, 1, -12);
        copied(900, 901, 0, 1);
        copied(-1, -1, 65536, 1);
        copied(65536, 65537, 65538, 1, 1, 1, 2);
    }

    private static void wiped() {
        copied(0, 0, 3, 1, 0, 0, 0);
        copied(1, 0, -3, 1, 1, 0, 0, 0);
        copied(14, 65536, 1, 1, 1, 2, 3, 4, 5, 6, 7, 8, 9, 10, 11, 12, 13, 14, 0);
        copied(14, 0, 2, -13);
        copied(14, 0, -2, -13);
        copied(15, 0, 5, -13);
        copied(15, 0, 6, -12);
        copied(15, 0, -6, -12);
        copied(20, 0, 1, -12);
        copied(0, 0, -32768, -12);
        copied(8, 0, 0, 1);
        copied(900, 0, 0, 1);
    }

    private static void inTurn() {
        copied(0, 1, -4, 1, 1, 1, 1, 1, 1);
        copied(2, 1, -2, 1, 1, 3, 4);
        zeroInTurn();
        copied(0, 13, -3, -13, 1, 2, 3, 4, 5, 6, 7, 8, 9, 10, 11, 12, 13, 1, 2);
        copied(18, 1, -3, -12, 1, 19, 20);
        copied(19, 14, -2, -12, 1, 2, 3, 4, 5, 6, 7, 8, 9, 10, 11, 12, 13, 14, 20);
        copied(0, 20, -1, -12);
        copied(0, 15, -6, -13);
        copied(20, 15, -1, -12);
        copied(0, 1, -32768, -13, 1, 1, 1, 1, 1, 1, 1, 1, 1, 1, 1, 1, 1, 1, 1);
        copied(0, 1, 65534, 1, 1, 1, 1);
    }

    private static void zeroInTurn() {
        ZMemory z = new ZMemory();
        z.size(4, 4);
        z.put(2, 9, false, false);
        DUE.is("copy(0, 2, -2) of zeros", z.copy(0, 2, -2), 1);
        DUE.is("copy(0, 2, -2) of zeros, then get(2)", z.get(2, false), 0);
    }

    public static void main(String[] args) {
        atOnce();
        wiped();
        inTurn();
        DUE.end();
    }
}
