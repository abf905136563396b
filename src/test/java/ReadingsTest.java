/**
 * Sentences of the document that could be read in more than one way, each held as its words say it most
 * plainly. Above each stands why.
 */
public final class ReadingsTest {
    private static final Due DUE = new Due();
    private static final int STACK = Story.STACK;
    private static final int[] RETURN_STACK = Story.in(21, STACK);

    private static int[] in(int op, int a, int b, int c, int store) {
        return Story.in(op, a, b, c, store);
    }

    private static int[] in(int op, int a) {
        return Story.in(op, a);
    }

    private static int variable(int k) {
        return Story.variable(k);
    }

    /** 20 bytes 1 .. 20, the first 15 of which can be written. */
    private static ZMemory twenty() {
        ZMemory z = new ZMemory();
        z.size(20, 15);
        for (int i = 0; i < 20; i++) {
            z.put(i, i + 1, false, true);
        }
        return z;
    }

    /** copy, random, run and work name a cut to 16 bits; look names none, so its numbers are what they are. */
    private static void lookCutsNothing() {
        DUE.about("TO LOOK for a WORD v in a table of n entries (n 0 or more; less: none) from x on");
        ZMemory z = twenty();
        z.put(4, 65535, true, true);
        DUE.is("v 65535", z.look(65535, 0, 10, 130), 4);
        DUE.is("v -1 is no WORD", z.look(-1, 0, 10, 130), 0);
        DUE.is("v 65536 + 7 is no WORD", z.look(65536 + 7, 0, 20, 1), 0);
        DUE.is("v MIN is no WORD", z.look(Integer.MIN_VALUE, 0, 20, 1), 0);
        DUE.is("v -12 is not like a FAULT", z.look(-12, 0, 21, 1), -12);
        DUE.is("x 65536 is OUTSIDE", z.look(1, 65536, 20, 1), -12);
        DUE.is("x MIN is OUTSIDE", z.look(1, Integer.MIN_VALUE, 20, 1), -12);
        DUE.is("x MAX is OUTSIDE", z.look(1, Integer.MAX_VALUE, 20, 129), -12);
        DUE.is("x -1 is OUTSIDE", z.look(1, -1, 20, 1), -12);
        DUE.is("x OUTSIDE, but no entries", z.look(1, Integer.MIN_VALUE, 0, 1), 0);
        DUE.is("n 32768 is 0 or more", z.look(7, 0, 32768, 1), 6);
        DUE.is("n 65536 is 0 or more", z.look(7, 0, 65536, 1), 6);
        DUE.is("n MAX is 0 or more", z.look(7, 0, Integer.MAX_VALUE, 1), 6);
        DUE.is("n MAX comes to what is OUTSIDE", z.look(99, 0, Integer.MAX_VALUE, 1), -12);
        DUE.is("n MAX of 0 bytes", z.look(99, 0, Integer.MAX_VALUE, 0), 0);
        DUE.is("n -1 is less", z.look(1, 0, -1, 1), 0);
        DUE.is("n -65535 is less", z.look(7, 0, -65535, 1), 0);
        DUE.is("n MIN is less", z.look(7, 0, Integer.MIN_VALUE, 1), 0);
    }

    /**
     * An OPERAND is a WORD, and the document says where one is a NUMBER: not here, though it does of COPY's n and of
     * b, c of OP 31. "less: none" is said of n of look(), which is any int.
     */
    private static void entriesOfAnOpAreAWord() {
        DUE.about("27 tells where a is LOOKED for from b on among c entries");
        Story.returning(DUE, "c 0", 0, in(27, 0, 10, 0, 0), RETURN_STACK);
        Story.returning(DUE, "c 32767", 10, in(27, 0, 10, 32767, 0), RETURN_STACK);
        Story.returning(DUE, "c 32768", 10, in(27, 0, 10, 32768, 0), RETURN_STACK);
        Story.returning(DUE, "c 65535", 10, in(27, 0, 10, 65535, 0), RETURN_STACK);
        Story.returning(DUE, "c 0 of what is OUTSIDE", 0, in(27, 0, 60, 0, 0), RETURN_STACK);
        Story.faulting(DUE, "c 65535, OUTSIDE", 2, in(27, 0, 60, 65535, 0), RETURN_STACK);
        Story.faulting(DUE, "c 32767, not there", 2, in(27, 1, 10, 32767, 0), RETURN_STACK);
        Story.faulting(DUE, "c 32768, not there", 2, in(27, 1, 10, 32768, 0), RETURN_STACK);
        Story.faulting(DUE, "c 65535 that ARITHMETIC told", 2, in(1, 0, 1, 0, 0), in(27, 1, 10, STACK, 0), RETURN_STACK);
        Story.returning(DUE, "a 65535 is a WORD", 10, in(18, 10, 0, 65535, -1), in(27, 65535, 10, 1, 0), RETURN_STACK);
    }

    /** The OP and the call go by the one term, so they answer alike wherever both can be asked. */
    private static void opAndCallLookAlike() {
        DUE.about("TO LOOK, by OP 27 and by look()");
        int[] values = {0, 1, 7, 20, 99, 0x0102, 0x0708, 0x1314, 65535};
        int[] places = {0, 1, 6, 18, 19, 20, 65535};
        int[] entries = {0, 1, 2, 7, 20, 21, 32767, 32768, 32769, 65534, 65535};
        int[] forms = {0, 1, 2, 127, 128, 129, 130, 255};
        for (int form : forms) {
            for (int v : values) {
                for (int x : places) {
                    for (int n : entries) {
                        lookedAlike(v, x, n, form);
                    }
                }
            }
        }
    }

    private static void lookedAlike(int v, int x, int n, int form) {
        ZMemory z = twenty();
        z.form(form);
        z.instruction(27, v, x, n, 0);
        z.instruction(21, STACK, 0, 0, -1);
        z.routine(0, 0, 0, false);
        int ended = z.run(0, 0, 0);
        int told = ended == 0 ? z.told(1) : -10 - z.told(2);
        DUE.is("OP 27 of " + v + ", " + x + ", " + n + " by FORM " + form, told, z.look(v, x, n, form));
    }

    private static void wiped(String what, int x, int n, int answer, int from, int to) {
        ZMemory z = twenty();
        DUE.is(what, z.copy(x, 0, n), answer);
        for (int i = 0; i < 20; i++) {
            DUE.is(what + ", then get(" + i + ")", z.get(i, false), i >= from && i < to ? 0 : i + 1);
        }
    }

    /** Byte by byte is said of bytes of x and of y; to y = 0 no byte of y is written, so nothing is done before a FAULT. */
    private static void toZeroIsAskedBefore() {
        DUE.about("y is 0: the bytes from x on become 0, as many as n tells without its sign");
        wiped("n 3", 2, 3, 1, 2, 5);
        wiped("n -3", 2, -3, 1, 2, 5);
        wiped("n -15: all that can be written", 0, -15, 1, 0, 15);
        wiped("n -16: 3, and nothing is done", 0, -16, -13, 0, 0);
        wiped("n 16: 3, and nothing is done", 0, 16, -13, 0, 0);
        wiped("n -20: 3, and nothing is done", 0, -20, -13, 0, 0);
        wiped("n -21: 2 ahead of 3, and nothing is done", 0, -21, -12, 0, 0);
        wiped("n 21: 2 ahead of 3, and nothing is done", 0, 21, -12, 0, 0);
        wiped("n -32768: without its sign", 1, -32768, -12, 0, 0);
        wiped("n 0, OUTSIDE", 900, 0, 1, 0, 0);
    }

    /** Rows of no bytes are rows all the same: the 10s between them come. */
    private static void rowsOfNoBytes() {
        DUE.about("31 prints c rows of b bytes from a on, a 10 between two rows (b, c below 0 as NUMBERS: none)");
        Story.returning(DUE, "b 65535", 0, in(31, 0, 65535, 3, -1), in(21, 0)).printed("\n\n");
        Story.returning(DUE, "b 32768", 0, in(31, 0, 32768, 2, -1), in(21, 0)).printed("\n");
        Story.returning(DUE, "b 0", 0, in(31, 0, 0, 3, -1), in(21, 0)).printed("\n\n");
        Story.returning(DUE, "b below 0, OUTSIDE", 0, in(31, 65535, 65535, 2, -1), in(21, 0)).printed("\n");
        Story.returning(DUE, "c 65535", 0, in(31, 0, 2, 65535, -1), in(21, 0)).printed("");
        Story.returning(DUE, "c 32768, OUTSIDE", 0, in(31, 65535, 2, 32768, -1), in(21, 0)).printed("");
        Story.returning(DUE, "c 0", 0, in(31, 0, 2, 0, -1), in(21, 0)).printed("");
        Story.returning(DUE, "c 1: no 10", 0, in(31, 0, 2, 1, -1), in(21, 0)).printed("\0\0");
        Story.faulting(DUE, "b 32767: what is printed before a FAULT stays", 2, in(31, 57, 32767, 1, -1)).printed("\0\0\0");
        Story.faulting(DUE, "c 32767 of none", 11, in(31, 57, 0, 32767, -1)).printed("\n".repeat(120));
    }

    /** A throw to a frame that is not under way is no throw but a FAULT: it counts once. */
    private static void throwToNoFrameCountsOnce() {
        DUE.about("8 a frame that is not under way; the 13th FAULT and throw (both count)");
        Story s = new Story(DUE, "FAULTS 8", in(20, 1, 0, 0, -1), in(15, 1), in(12, variable(1), 0, 0, -1), in(21, 9),
            in(25, 5, 2, 0, -1)).routine(0, 0, 1, false).routine(1, 4, 0, true);
        s.runs(0, 12, 0, 0).told(1, 9).told(2, 0).told(3, 12).told(4, 0).left(1, 12);
        s.runs(0, 13, 0, 3).told(1, 0).told(2, 0).told(3, 12).told(4, 0).left(1, 13);
    }

    /** THE TAPE goes on counting when it is empty: what comes behind it then is its next number. */
    private static void emptyTapeGoesOnCounting() {
        DUE.about("or THE TAPE: its next number t (it goes): t % r + 1, and by THE SEED, when it is empty");
        ZMemory seeded = new ZMemory();
        int first = seeded.random(1000);
        int second = seeded.random(1000);
        int third = seeded.random(1000);
        ZMemory z = new ZMemory();
        DUE.is("random(0)", z.random(0), 0);
        DUE.is("empty", z.random(1000), first);
        DUE.is("tape(1999)", z.tape(1999), 1);
        DUE.is("not empty", z.random(1000), 1000);
        DUE.is("told(8)", z.told(8), 0);
        DUE.is("empty again: THE SEED goes on", z.random(1000), second);
        z.random(-2);
        z.random(0);
        DUE.is("empty, after THE COUNT", z.random(1000), third);
    }

    public static void main(String[] args) {
        lookCutsNothing();
        entriesOfAnOpAreAWord();
        opAndCallLookAlike();
        toZeroIsAskedBefore();
        rowsOfNoBytes();
        throwToNoFrameCountsOnce();
        emptyTapeGoesOnCounting();
        DUE.end();
    }
}
