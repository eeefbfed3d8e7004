/**
 * Promise 3: "The text has just its first n signs. IllegalArgumentException if n is below 0 or above how many
 * there are."
 */
public final class EndTest {
    public static void main(String[] args) {
        Check check = new Check();
        GasContract x = Check.with("fn f(){}fn");
        check.dueThrow("end(-1)", IllegalArgumentException.class, () -> x.end(-1));
        check.dueThrow("end(11)", IllegalArgumentException.class, () -> x.end(11));
        check.dueThrow("end(least)", IllegalArgumentException.class, () -> x.end(Integer.MIN_VALUE));
        check.dueThrow("end(greatest)", IllegalArgumentException.class, () -> x.end(Integer.MAX_VALUE));
        x.end(10);
        check.due("all are left", x.compile(), 10);
        x.end(8);
        check.due("the first function is left", x.compile(), GasContract.NONE);
        check.dueThrow("end(9)", IllegalArgumentException.class, () -> x.end(9));
        check.due("put behind the end", x.put('!'), 9);
        check.due("the ! is the fault", x.compile(), 8);
        x.end(0);
        check.due("nothing is left", x.compile(), 0);
        check.due("put from the beginning", x.put('f'), 1);
        check.due("the contract stays", x.functions(-1), 1);
        check.finish();
    }
}
