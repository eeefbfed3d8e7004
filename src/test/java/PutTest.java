/**
 * Promise 2: "Four more signs, the lowest byte first (those that are 0 are left out): how many there are.
 * IllegalArgumentException if a byte is above 127; UnsupportedOperationException if there would be more than 600."
 */
public final class PutTest {
    public static void main(String[] args) {
        Check check = new Check();
        lowestByteFirst(check);
        zerosAreLeftOut(check);
        bytesAbove127(check);
        atMost600(check);
        check.finish();
    }

    private static void lowestByteFirst(Check check) {
        GasContract x = new GasContract();
        check.due("put(fn f)", x.put('f' | 'n' << 8 | ' ' << 16 | 'f' << 24), 4);
        check.due("put((){})", x.put('(' | ')' << 8 | '{' << 16 | '}' << 24), 8);
        check.due("compile()", x.compile(), GasContract.NONE);
        check.due("functions(-1)", x.functions(-1), 1);
    }

    private static void zerosAreLeftOut(Check check) {
        GasContract x = new GasContract();
        check.due("put f, 0, n, 0", x.put('f' | 'n' << 16), 2);
        check.due("put 0, 0, 0, blank", x.put(' ' << 24), 3);
        check.due("put(0)", x.put(0), 3);
        check.due("put f", x.put('f'), 4);
        check.due("put 0, (, ), 0", x.put('(' << 8 | ')' << 16), 6);
        check.due("put 0, {, 0, }", x.put('{' << 8 | '}' << 24), 8);
        check.due("compile()", x.compile(), GasContract.NONE);
    }

    private static void bytesAbove127(Check check) {
        GasContract x = new GasContract();
        for (int shift = 0; shift < 32; shift += 8) {
            int signs = 128 << shift;
            check.dueThrow("put(" + signs + ")", IllegalArgumentException.class, () -> x.put(signs));
        }
        check.dueThrow("put(-1)", IllegalArgumentException.class, () -> x.put(-1));
        check.dueThrow("good signs and a bad one", IllegalArgumentException.class, () -> x.put(0x80616161));
        check.due("put(127 four times)", x.put(0x7f7f7f7f), 4);
    }

    private static void atMost600(Check check) {
        GasContract x = new GasContract();
        for (int i = 1; i <= 149; i++) {
            check.due("put", x.put(0x20202020), 4 * i);
        }
        check.due("put one", x.put(' '), 597);
        check.dueThrow("put a 601st", UnsupportedOperationException.class, () -> x.put(0x20202020));
        check.dueThrow("a bad byte and a 601st", IllegalArgumentException.class, () -> x.put(0x80202020));
        check.due("nothing was put; put three", x.put(0x202020), 600);
        check.dueThrow("put one more", UnsupportedOperationException.class, () -> x.put(' '));
        check.due("put none", x.put(0), 600);
        check.due("all are blanks", x.compile(), 600);
        x.end(597);
        check.due("put three", x.put('@' << 8 | ' ' | ' ' << 16), 600);
        check.due("the @ behind a blank", x.compile(), 598);
    }
}
