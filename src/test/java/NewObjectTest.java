/** Promise 1: "An empty text, an empty store; nothing is compiled." */
public final class NewObjectTest {
    public static void main(String[] args) {
        Check check = new Check();
        GasContract x = new GasContract();
        check.due("NONE", GasContract.NONE, -1);
        check.due("stored()", x.stored(), 0);
        check.due("load(0)", x.load(0), 0);
        check.due("load(least)", x.load(Integer.MIN_VALUE), 0);
        for (int what = 0; what < 3; what++) {
            check.due("result(" + what + ")", x.result(what), 0);
        }
        check.dueThrow("functions(-1)", IllegalStateException.class, () -> x.functions(-1));
        check.dueThrow("call", IllegalStateException.class, () -> x.call(0, 1, 0, 0, 0));
        check.dueThrow("end(1)", IllegalArgumentException.class, () -> x.end(1));
        check.due("put(0)", x.put(0), 0);
        check.due("compile()", x.compile(), 0);
        twoObjectsShareNothing(check);
        check.finish();
    }

    private static void twoObjectsShareNothing(Check check) {
        GasContract one = Check.compiled("fn f(a){store[a]=a;}");
        one.call(0, 100, 7, 0, 0);
        GasContract other = new GasContract();
        check.due("load(7) of another object", other.load(7), 0);
        check.due("put of another object", other.put('f'), 1);
        check.dueThrow("functions of another object", IllegalStateException.class, () -> other.functions(-1));
    }
}
