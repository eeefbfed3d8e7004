/**
 * Promise 7: "Of the latest transaction: 0 what it gave (0 if it failed or was refused), 1 what it was
 * charged, 2 how many there were since the beginning. IllegalArgumentException for another what."
 */
public final class ResultTest {
    public static void main(String[] args) {
        Check check = new Check();
        GasContract x = Check.compiled("fn f(a){require a!=3;return 6/a;}");
        check.dueCall(x, 0, 50, Check.abc(2, 0, 0), 0, 3, 12);
        check.due("result(2)", x.result(2), 1);
        check.dueCall(x, 0, 51, Check.abc(0, 0, 0), 1, 0, 51);
        check.due("a failed one counts", x.result(2), 2);
        check.dueCall(x, 0, 52, Check.abc(3, 0, 0), 2, 0, 52);
        check.due("a refused one counts", x.result(2), 3);
        check.dueCall(x, 0, 53, Check.abc(-1, 0, 0), 0, -6, 12);
        for (int what : new int[] {-1, 3, Integer.MIN_VALUE, Integer.MAX_VALUE}) {
            check.dueThrow("result(" + what + ")", IllegalArgumentException.class, () -> x.result(what));
        }
        callsThatThrowAreNone(check, x);
        x.compile();
        check.due("compile leaves it", x.result(0), -6);
        check.due("compile leaves them", x.result(2), 4);
        check.finish();
    }

    /** "A call that throws changes nothing." */
    private static void callsThatThrowAreNone(Check check, GasContract x) {
        check.dueThrow("no such function", IndexOutOfBoundsException.class, () -> x.call(1, 1, 1, 1, 1));
        check.dueThrow("no such gas", IllegalArgumentException.class, () -> x.call(0, -1, 1, 1, 1));
        check.due("result(0)", x.result(0), -6);
        check.due("result(1)", x.result(1), 12);
        check.due("result(2)", x.result(2), 4);
    }
}
