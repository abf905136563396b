/** Promise 7: look. */
public final class LookTest {
    public static void main(String[] args) {
        Due due = new Due();
        ZMemory z = new ZMemory();
        z.size(20, 0);
        for (int i = 0; i < 20; i++) {
            z.put(i, i + 1, false, true);
        }
        due.is("a byte", z.look(7, 0, 20, 1), 6);
        due.is("the first is at 0", z.look(1, 0, 20, 1), 0);
        due.is("entries of 3 bytes", z.look(7, 0, 5, 3), 6);
        due.is("only their first byte", z.look(8, 0, 6, 3), 0);
        due.is("the last entry", z.look(7, 0, 7, 1), 6);
        due.is("one entry too few", z.look(7, 0, 6, 1), 0);
        due.is("a WORD", z.look(0x0708, 0, 10, 130), 6);
        due.is("WORDS of entries of 1 byte", z.look(0x0809, 0, 10, 129), 7);
        due.is("a byte is not like a WORD above 255", z.look(256 + 7, 0, 7, 1), 0);
        due.is("a WORD is compared whole", z.look(7, 0, 10, 130), 0);
        due.is("no entries", z.look(1, 500, 0, 1), 0);
        due.is("less than none", z.look(1, 500, -1, 1), 0);
        due.is("the lowest number of entries", z.look(1, 500, -32768, 1), 0);
        due.is("FAULT 2 of a byte", z.look(99, 0, 21, 1), -12);
        due.is("no FAULT before it comes to it", z.look(99, 0, 20, 1), 0);
        due.is("found before FAULT 2", z.look(20, 0, 32767, 1), 19);
        due.is("FAULT 2 of a WORD's second byte", z.look(99, 19, 1, 130), -12);
        due.is("FAULT 2 at once", z.look(1, 20, 1, 1), -12);
        due.is("FAULT 2 far away", z.look(1, 65535, 2, 127), -12);
        due.is("an entry reaches outside, its first byte does not", z.look(19, 18, 1, 127), 18);
        due.is("entries of 0 bytes, found", z.look(6, 5, 32767, 0), 5);
        due.is("entries of 0 bytes, not found", z.look(7, 5, 32767, 0), 0);
        due.is("entries of 0 bytes, a WORD", z.look(0x0607, 5, 2, 128), 5);
        due.is("entries of 0 bytes, none of them", z.look(6, 5, 0, 0), 0);
        due.is("entries of 0 bytes, outside", z.look(6, 20, 1, 128), -12);
        due.is("FORM 255", z.look(0x0102, 0, 1, 255), 0);
        due.is("FORM 255 from 1", z.look(0x0203, 1, 1, 255), 1);
        due.is("FORM 256", z.look(1, 0, 1, 256), -2);
        due.is("FORM -1", z.look(1, 0, 1, -1), -2);
        due.is("FORM ahead of a FAULT", z.look(1, 500, 1, Integer.MIN_VALUE), -2);
        due.end();
    }
}
