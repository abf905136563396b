/** Promise 1: what a new object has. */
public final class NewObjectTest {
    public static void main(String[] args) {
        Due due = new Due();
        ZMemory z = new ZMemory();
        due.is("get(0, false) with SIZE 0", z.get(0, false), -12);
        due.is("put(0, 1, false, true) with SIZE 0", z.put(0, 1, false, true), -12);
        due.is("look(0, 0, 1, 1) with SIZE 0", z.look(0, 0, 1, 1), -12);
        due.is("copy(0, 0, 1) with SIZE 0", z.copy(0, 0, 1), -12);
        for (int what = 0; what <= 8; what++) {
            due.is("told(" + what + ")", z.told(what), 0);
        }
        for (int r = 0; r <= 7; r++) {
            due.is("left(" + r + ")", z.left(r), 0);
            due.is("run(" + r + ", 0, 0)", z.run(r, 0, 0), ZMemory.NONE);
        }
        due.throwing("printed(0)", IndexOutOfBoundsException.class, () -> z.printed(0));
        due.is("clear()", z.clear(), 0);
        due.is("globe(0)", z.globe(0), 0);
        due.is("form(0)", z.form(0), 130);
        due.is("instruction", z.instruction(0, 0, 0, 0, -1), 0);
        due.is("tape(0)", z.tape(0), 1);
        ZMemory other = new ZMemory();
        due.is("random(32767) by THE SEED 1", other.random(32767), 16838 % 32767 + 1);
        due.is("told(7) of another object", other.told(7), 0);
        due.end();
    }
}
