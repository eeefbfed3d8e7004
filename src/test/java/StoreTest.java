/**
 * Promises 8 ("A number of the store.") and 9 ("How many numbers of the store are other than 0."), and
 * the store's limit.
 */
public final class StoreTest {
    private static final String TEXT = "fn set(k,v){store[k]=v;}"
            + "fn fill(k,n){while 0<n{store[k+n]=n;n=n-1;}}"
            + "fn move(a,b){let v=load[a];store[b]=v;store[a]=0;}"
            + "fn clear(k,n){while 0<n{store[k+n]=0;n=n-1;}}"
            + "fn bad(k){store[k]=9;return 1/0;}"
            + "fn no(k){store[k]=0;require load[k]!=0;}";
    private static final int SET = 0;
    private static final int FILL = 1;
    private static final int MOVE = 2;
    private static final int CLEAR = 3;
    private static final int BAD = 4;
    private static final int NO = 5;

    public static void main(String[] args) {
        Check check = new Check();
        everyKey(check);
        thirtyTwo(check);
        backAsItWas(check);
        compileKeepsTheStore(check);
        check.finish();
    }

    private static void everyKey(Check check) {
        GasContract x = Check.compiled(TEXT);
        int[] keys = {0, -1, 1, Integer.MIN_VALUE, Integer.MAX_VALUE, 600};
        for (int i = 0; i < keys.length; i++) {
            check.due("set", x.call(SET, 100, keys[i], i - 10, 0), 0);
            check.due("stored()", x.stored(), i + 1);
        }
        for (int i = 0; i < keys.length; i++) {
            check.due("load(" + keys[i] + ")", x.load(keys[i]), i - 10);
        }
        check.due("load of another key", x.load(2), 0);
        x.call(SET, 100, -1, 77, 0);
        check.due("set again", x.load(-1), 77);
        check.due("as many as before", x.stored(), keys.length);
        x.call(SET, 100, 0, 0, 0);
        check.due("set to 0", x.load(0), 0);
        check.due("one fewer", x.stored(), keys.length - 1);
        x.call(SET, 100, 55, 0, 0);
        check.due("0 where 0 was", x.stored(), keys.length - 1);
        check.due("the others stay", x.load(600), -5);
        check.due("the others stay", x.load(Integer.MIN_VALUE), -7);
    }

    private static void thirtyTwo(Check check) {
        GasContract x = Check.compiled(TEXT);
        check.due("33 at once", x.call(FILL, 50000, 0, 33, 0), 1);
        check.due("stored()", x.stored(), 0);
        check.due("32 at once", x.call(FILL, 50000, 0, 32, 0), 0);
        check.due("stored()", x.stored(), 32);
        check.due("a 33rd", x.call(SET, 100, 40, 1, 0), 1);
        check.due("its whole limit", x.result(1), 100);
        check.due("a 33rd that is 0", x.call(SET, 100, 40, 0, 0), 0);
        check.due("another number for one of the 32", x.call(SET, 100, 32, 5, 0), 0);
        check.due("load(32)", x.load(32), 5);
        check.due("33 for a while", x.call(MOVE, 500, 1, 40, 0), 1);
        check.due("load(40)", x.load(40), 0);
        check.due("load(1)", x.load(1), 1);
        check.due("room for one", x.call(SET, 100, 1, 0, 0), 0);
        check.due("32 for a while", x.call(MOVE, 500, 2, 40, 0), 0);
        check.due("load(40)", x.load(40), 2);
        check.due("stored()", x.stored(), 31);
        check.due("clear", x.call(CLEAR, 50000, 0, 40, 0), 0);
        check.due("stored()", x.stored(), 0);
    }

    private static void backAsItWas(Check check) {
        GasContract x = Check.compiled(TEXT);
        x.call(FILL, 50000, 0, 5, 0);
        check.due("fails behind a store", x.call(BAD, 500, 3, 0, 0), 1);
        check.due("load(3)", x.load(3), 3);
        check.due("refused behind a store", x.call(NO, 500, 3, 0, 0), 2);
        check.due("load(3)", x.load(3), 3);
        check.due("gas ends behind some", x.call(CLEAR, 150, 0, 5, 0), 1);
        check.due("gas ends behind some", x.call(FILL, 250, 100, 9, 0), 1);
        check.due("stored()", x.stored(), 5);
        for (int key = 1; key <= 5; key++) {
            check.due("load(" + key + ")", x.load(key), key);
        }
        check.due("load(109)", x.load(109), 0);
    }

    /** Promise 4: "The store stays." */
    private static void compileKeepsTheStore(Check check) {
        GasContract x = Check.compiled(TEXT);
        x.call(SET, 100, 4, 44, 0);
        x.end(0);
        Check.write(x, "fn get(k){return load[k];}");
        x.compile();
        check.due("load(4)", x.load(4), 44);
        check.dueCall(x, 0, 23, Check.abc(4, 0, 0), 0, 44, 23);
        x.end(1);
        x.compile();
        check.due("load(4) behind a fault", x.load(4), 44);
        check.due("stored()", x.stored(), 1);
    }
}
