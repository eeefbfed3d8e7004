import java.util.ArrayList;
import java.util.List;

/** "A call that throws changes nothing.", and which of its exceptions a call throws. */
public final class RefusedCallTest {
    private static final String CONTRACT = "fn f(k,v){store[k]=v;return v*2;}fn g(){require false;}";

    public static void main(String[] args) {
        Check check = new Check();
        ofANewObject(check);
        ofAnObjectWithATextAlone(check);
        behindATransaction(check);
        behindARefusedOne(check);
        withAFullText(check);
        theOrderOfExceptions(check);
        check.finish();
    }

    private static void ofANewObject(Check check) {
        GasContract x = new GasContract();
        nothingChanges(check, x, 0);
        check.due("put", x.put('f'), 1);
        check.due("compile()", x.compile(), 0);
    }

    private static void ofAnObjectWithATextAlone(Check check) {
        GasContract x = Check.with(CONTRACT);
        nothingChanges(check, x, CONTRACT.length());
        check.due("compile()", x.compile(), GasContract.NONE);
    }

    private static void behindATransaction(Check check) {
        GasContract x = Check.compiled(CONTRACT);
        check.dueCall(x, 0, 100, Check.abc(1, 21, 0), 0, 42, 48);
        nothingChanges(check, x, CONTRACT.length());
        Check.write(x, " @");
        nothingChanges(check, x, CONTRACT.length() + 2);
        check.due("the fault that was put", x.compile(), CONTRACT.length() + 1);
        nothingChanges(check, x, CONTRACT.length() + 2);
        check.dueCall(x, 0, 100, Check.abc(2, 3, 0), 0, 6, 48);
    }

    private static void behindARefusedOne(Check check) {
        GasContract x = Check.compiled(CONTRACT);
        x.call(0, 100, 5, 6, 0);
        check.dueCall(x, 1, 77, Check.abc(0, 0, 0), 2, 0, 77);
        nothingChanges(check, x, CONTRACT.length());
        check.dueCall(x, 0, 10, Check.abc(0, 0, 0), 1, 0, 10);
        nothingChanges(check, x, CONTRACT.length());
    }

    private static void withAFullText(Check check) {
        GasContract x = Check.with(CONTRACT);
        Check.write(x, " ".repeat(600 - CONTRACT.length()));
        List<Integer> before = state(x);
        for (int signs : new int[] {' ', ' ' << 8, ' ' << 16, ' ' << 24, 0x20202020, 0x7f7f7f7f, 1}) {
            check.dueThrow("put beyond 600", UnsupportedOperationException.class, () -> x.put(signs));
        }
        check.due("the state is the same", state(x).equals(before) ? 1 : 0, 1);
        check.due("compile()", x.compile(), GasContract.NONE);
        x.end(598);
        check.dueThrow("put three where two fit", UnsupportedOperationException.class, () -> x.put(0x404040));
        check.due("none of the three is there", x.put(0), 598);
        check.due("put two", x.put(0x2020), 600);
        check.due("no sign of the three is left", x.compile(), GasContract.NONE);
        x.end(596);
        check.dueThrow("put good signs and a bad one", IllegalArgumentException.class, () -> x.put(0x80404040));
        check.due("none of them is there", x.put(0x20202020), 600);
        check.due("compile()", x.compile(), GasContract.NONE);
    }

    /** Every call that must throw here, and the state behind each. */
    private static void nothingChanges(Check check, GasContract x, int length) {
        boolean contract = hasContract(x);
        List<Integer> before = state(x);
        for (int signs : new int[] {128, -1, Integer.MIN_VALUE, 0x61806161, 0x616180, 255 << 16}) {
            check.dueThrow("put(" + signs + ")", IllegalArgumentException.class, () -> x.put(signs));
        }
        for (int n : new int[] {-1, length + 1, Integer.MIN_VALUE, Integer.MAX_VALUE}) {
            check.dueThrow("end(" + n + ")", IllegalArgumentException.class, () -> x.end(n));
        }
        for (int f : new int[] {-2, 2, 8, Integer.MIN_VALUE, Integer.MAX_VALUE}) {
            check.dueThrow("functions(" + f + ")",
                    contract ? IndexOutOfBoundsException.class : IllegalStateException.class, () -> x.functions(f));
        }
        for (int f : new int[] {-1, 2, 8, Integer.MIN_VALUE, Integer.MAX_VALUE}) {
            check.dueThrow("call(" + f + ")",
                    contract ? IndexOutOfBoundsException.class : IllegalStateException.class, () -> x.call(f, 100, 1, 2, 3));
        }
        for (int gas : new int[] {-1, 50001, Integer.MIN_VALUE, Integer.MAX_VALUE}) {
            check.dueThrow("call with gas " + gas,
                    contract ? IllegalArgumentException.class : IllegalStateException.class, () -> x.call(0, gas, 1, 2, 3));
        }
        for (int what : new int[] {-1, 3, Integer.MIN_VALUE, Integer.MAX_VALUE}) {
            check.dueThrow("result(" + what + ")", IllegalArgumentException.class, () -> x.result(what));
        }
        check.due("the state " + state(x) + " is " + before, state(x).equals(before) ? 1 : 0, 1);
        check.due("the text's length", x.put(0), length);
    }

    /** All that can be asked without changing anything. */
    private static List<Integer> state(GasContract x) {
        List<Integer> state = new ArrayList<>();
        state.add(x.put(0));
        state.add(x.stored());
        for (int what = 0; what < 3; what++) {
            state.add(x.result(what));
        }
        for (int key = -2; key < 10; key++) {
            state.add(x.load(key));
        }
        for (int f = -1; hasContract(x) && f < x.functions(-1); f++) {
            state.add(x.functions(f));
        }
        return state;
    }

    private static boolean hasContract(GasContract x) {
        try {
            return x.functions(-1) > 0;
        } catch (IllegalStateException none) {
            return false;
        }
    }

    /** The document names a call's exceptions in an order: the first whose reason is there is thrown. */
    private static void theOrderOfExceptions(Check check) {
        GasContract x = Check.with("fn f(){}" + " ".repeat(591));
        check.dueThrow("no contract, no function, no gas", IllegalStateException.class, () -> x.call(5, -1, 0, 0, 0));
        check.dueThrow("no contract, no gas", IllegalStateException.class, () -> x.call(0, -1, 0, 0, 0));
        check.dueThrow("no contract, no function", IllegalStateException.class, () -> x.functions(5));
        x.compile();
        check.dueThrow("no function, no gas", IndexOutOfBoundsException.class, () -> x.call(5, -1, 0, 0, 0));
        check.dueThrow("no gas", IllegalArgumentException.class, () -> x.call(0, -1, 0, 0, 0));
        check.dueThrow("a bad byte, and too many", IllegalArgumentException.class, () -> x.put(0x80202020));
        check.dueThrow("too many", UnsupportedOperationException.class, () -> x.put(0x202020));
    }
}
