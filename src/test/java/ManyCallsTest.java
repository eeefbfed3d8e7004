/** "An object is used for at most 512 calls after it has been made": all 512 are answered as the first is. */
public final class ManyCallsTest {
    private static final int MOST_CALLS = 512;

    public static void main(String[] args) {
        Check check = new Check();
        transactions(check);
        failedTransactions(check);
        compilations(check);
        texts(check);
        callsThatThrow(check);
        check.finish();
    }

    private static void transactions(Check check) {
        String text = "fn f(a){store[a%32]=load[a%32]+1;return a;}";
        GasContract x = Check.compiled(text);
        int made = (text.length() + 3) / 4 + 1;
        int many = MOST_CALLS - made - 2;
        for (int i = 0; i < many; i++) {
            check.due("call", x.call(0, 74 + i, i, 0, 0), 0);
        }
        check.due("stored()", x.stored(), 32);
        check.due("result(2), the 512th call", x.result(2), many);
    }

    private static void failedTransactions(Check check) {
        String text = "fn f(a){store[a]=1;return f(a+1)*(2+f(a));}fn g(){store[1]=1;require false;}";
        GasContract x = Check.compiled(text);
        int made = (text.length() + 3) / 4 + 1;
        int many = (MOST_CALLS - made) / 2 - 1;
        for (int i = 0; i < many; i++) {
            check.due("fails", x.call(0, 50000 - i, i, 0, 0), 1);
            check.due("is refused", x.call(1, 50000 - i, i, 0, 0), 2);
        }
        check.due("stored()", x.stored(), 0);
        check.due("result(2)", x.result(2), 2 * many);
    }

    private static void compilations(Check check) {
        String text = "fn f(){return 1;}fn g(a,b,c){let d=1;let e=f();return -(d+e);}";
        GasContract x = Check.compiled(text);
        int made = (text.length() + 3) / 4 + 1;
        for (int i = made; i < MOST_CALLS - 4; i += 4) {
            check.due("put a bad sign", x.put('@'), text.length() + 1);
            check.due("a fault", x.compile(), text.length());
            x.end(text.length());
            check.due("accepted", x.compile(), GasContract.NONE);
        }
        check.due("functions(1)", x.functions(1), 3);
        check.due("call", x.call(1, 99, 0, 0, 0), 0);
        check.due("result(0)", x.result(0), -2);
    }

    private static void texts(Check check) {
        GasContract x = new GasContract();
        for (int turn = 0; turn < 3; turn++) {
            for (int i = 1; i <= 150; i++) {
                check.due("put", x.put(0x20202020), 4 * i);
            }
            check.due("blanks alone", x.compile(), 600);
            x.end(0);
        }
        Check.write(x, "fn f(){}");
        check.due("compile()", x.compile(), GasContract.NONE);
    }

    private static void callsThatThrow(Check check) {
        GasContract x = Check.compiled("fn f(){return 5;}");
        for (int i = 6; i < MOST_CALLS - 3; i++) {
            int wrong = 50001 + i;
            check.dueThrow("call", IllegalArgumentException.class, () -> x.call(0, wrong, 0, 0, 0));
        }
        check.due("call", x.call(0, 3, 0, 0, 0), 0);
        check.due("result(0)", x.result(0), 5);
        check.due("result(2)", x.result(2), 1);
    }
}
