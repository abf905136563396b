/** Promises 8 random, 9 tape. */
public final class RandomTest {
    private static final Due DUE = new Due();

    private static void drawn(ZMemory z, String by, int r, int... due) {
        for (int i = 0; i < due.length; i++) {
            DUE.is(by + ": random(" + r + "), time " + i, z.random(r), due[i]);
        }
    }

    private static int[] bySeed(long seed, int r, int times) {
        int[] due = new int[times];
        long x = seed;
        for (int i = 0; i < times; i++) {
            x = (x * 1103515245L + 12345L) % (1L << 31);
            due[i] = (int) (x / 65536 % r) + 1;
        }
        return due;
    }

    private static void seeds() {
        drawn(new ZMemory(), "THE SEED 1", 32767, bySeed(1, 32767, 50));
        ZMemory z = new ZMemory();
        drawn(z, "SEED 1000", -1000, 0);
        drawn(z, "SEED 1000", 6, bySeed(1000, 6, 50));
        drawn(z, "SEED 32768", -32768, 0);
        drawn(z, "SEED 32768", 100, bySeed(32768, 100, 50));
        drawn(z, "SEED 32768 as a WORD", 32768, 0);
        drawn(z, "SEED 32768", 1, 1, 1);
        drawn(z, "SEED 32768 again", 32768 + 65536, 0);
        drawn(z, "SEED 32768 again", 65536 + 7, bySeed(32768, 7, 5));
    }

    private static void counts() {
        ZMemory z = new ZMemory();
        drawn(z, "COUNT 3", -3, 0);
        drawn(z, "COUNT 3", 100, 1, 2, 3, 1, 2);
        drawn(z, "COUNT 3 from 1 again", -3, 0);
        drawn(z, "COUNT 3", 2, 1, 2, 1, 1, 2, 1);
        drawn(z, "COUNT 1", 65535, 0);
        drawn(z, "COUNT 1", 5, 1, 1, 1);
        drawn(z, "COUNT 999", -999, 0);
        for (int i = 1; i <= 400; i++) {
            drawn(z, "COUNT 999", 1000, i);
        }
    }

    private static void countKeepsTheSeed() {
        int[] due = bySeed(1, 50, 4);
        ZMemory z = new ZMemory();
        drawn(z, "SEED", 50, due[0], due[1]);
        drawn(z, "COUNT", -2, 0);
        drawn(z, "COUNT", 50, 1, 2, 1);
        drawn(z, "TAPE", 0, 0);
        drawn(z, "an empty TAPE goes by THE SEED", 50, due[2]);
        z.tape(65535);
        drawn(z, "TAPE", 50, 65535 % 50 + 1);
        drawn(z, "an empty TAPE again", 50, due[3]);
    }

    private static void tapes() {
        ZMemory z = new ZMemory();
        DUE.is("tape(-1)", z.tape(-1), -2);
        DUE.is("tape(65536)", z.tape(65536), -2);
        for (int i = 1; i <= 50; i++) {
            DUE.is("tape, number " + i, z.tape(i == 50 ? 65535 : i), i);
        }
        DUE.is("tape(0) with 50", z.tape(0), -3);
        DUE.is("tape(-1) with 50", z.tape(-1), -2);
        DUE.is("told(8)", z.told(8), 50);
        drawn(z, "not by THE TAPE yet", 32767, bySeed(1, 32767, 2));
        DUE.is("told(8) is as before", z.told(8), 50);
        drawn(z, "TAPE", 65536, 0);
        drawn(z, "TAPE", 1000, 2, 3, 4);
        DUE.is("told(8) is 3 less", z.told(8), 47);
        DUE.is("tape behind", z.tape(7), 48);
        DUE.is("tape behind", z.tape(0), 49);
        for (int i = 4; i < 50; i++) {
            drawn(z, "TAPE", 1000, i + 1);
        }
        drawn(z, "TAPE", 32767, 65535 % 32767 + 1, 8, 1);
        DUE.is("told(8) is 0", z.told(8), 0);
        z.tape(5);
        drawn(z, "TAPE, COUNT, TAPE", -9, 0);
        drawn(z, "COUNT", 9, 1);
        drawn(z, "THE TAPE kept its number", 0, 0);
        drawn(z, "TAPE", 9, 6);
    }

    public static void main(String[] args) {
        seeds();
        counts();
        countKeepsTheSeed();
        tapes();
        DUE.end();
    }
}
