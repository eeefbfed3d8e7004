/**
 * Promise 5: "Of the contract: how many functions (f = -1), or how many parameters function f has.
 * IllegalStateException if there is none; IndexOutOfBoundsException if there is no such function."
 */
public final class FunctionsTest {
    public static void main(String[] args) {
        Check check = new Check();
        GasContract x = Check.with("fn a(){}fn b(x){}fn c(x,y){}fn d(x,y,z){}");
        check.dueThrow("functions(0) ahead of compile", IllegalStateException.class, () -> x.functions(0));
        check.dueThrow("functions(9) ahead of compile", IllegalStateException.class, () -> x.functions(9));
        x.compile();
        check.due("functions(-1)", x.functions(-1), 4);
        for (int f = 0; f < 4; f++) {
            check.due("functions(" + f + ")", x.functions(f), f);
        }
        for (int f : new int[] {4, 8, -2, Integer.MIN_VALUE, Integer.MAX_VALUE}) {
            check.dueThrow("functions(" + f + ")", IndexOutOfBoundsException.class, () -> x.functions(f));
        }
        aFaultKeepsTheContract(check, x);
        aNewContractHasItsOwn(check, x);
        aFaultMakesNoContract(check);
        eightFunctions(check);
        check.finish();
    }

    /** "IllegalStateException if there is none": nor is there one behind a fault. */
    private static void aFaultMakesNoContract(Check check) {
        GasContract x = Check.with("fn f(){}fn g(){}@");
        check.due("compile()", x.compile(), 16);
        check.dueThrow("functions(-1) behind a fault", IllegalStateException.class, () -> x.functions(-1));
        check.dueThrow("functions(0) behind a fault", IllegalStateException.class, () -> x.functions(0));
        check.dueThrow("call behind a fault", IllegalStateException.class, () -> x.call(0, 9, 0, 0, 0));
        x.end(16);
        check.due("compile()", x.compile(), GasContract.NONE);
        check.due("functions(-1)", x.functions(-1), 2);
    }

    /** "IndexOutOfBoundsException if there is no such function": behind the last of as many as there can be. */
    private static void eightFunctions(Check check) {
        GasContract x = Check.compiled("fn a(){}fn b(){}fn c(){}fn d(){}fn e(){}fn f(){}fn g(){}fn h(x,y,z){return x;}");
        check.due("functions(-1)", x.functions(-1), 8);
        check.due("functions(7)", x.functions(7), 3);
        check.dueThrow("functions(8)", IndexOutOfBoundsException.class, () -> x.functions(8));
        check.dueThrow("call(8)", IndexOutOfBoundsException.class, () -> x.call(8, 9, 0, 0, 0));
        check.dueCall(x, 7, 9, Check.abc(4, 5, 6), 0, 4, 3);
    }

    /** "otherwise its fault (the contract before stays)". */
    private static void aFaultKeepsTheContract(Check check, GasContract x) {
        x.end(0);
        Check.write(x, "fn q(x){}fn q");
        check.due("compile()", x.compile(), 12);
        check.due("functions(-1)", x.functions(-1), 4);
        check.due("functions(0)", x.functions(0), 0);
        check.due("functions(3)", x.functions(3), 3);
    }

    /** "NONE if it is accepted (it is the contract then)". */
    private static void aNewContractHasItsOwn(Check check, GasContract x) {
        x.end(9);
        check.due("compile()", x.compile(), GasContract.NONE);
        check.due("functions(-1)", x.functions(-1), 1);
        check.due("functions(0)", x.functions(0), 1);
        check.dueThrow("functions(1)", IndexOutOfBoundsException.class, () -> x.functions(1));
    }
}
