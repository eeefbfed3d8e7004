/** The document's sentences on the store, on transactions and on what they cost: each quoted ahead of its test. */
public final class TransactionBoundaryTest {
    private static final int DONE = 0;
    private static final int FAILED = 1;
    private static final int REFUSED = 2;
    private static final int[] NOTHING = {0, 0, 0};

    public static void main(String[] args) {
        Check check = new Check();
        anIntForEachInt(check);
        atMost32OtherThan0(check);
        parametersOutOfThree(check);
        oneByOne(check);
        letsThatWereNotDone(check);
        returnAndTheEnd(check);
        partsWaitForACall(check);
        intsWrap(check);
        towards0(check);
        comparisons(check);
        bools(check);
        secondPartsNotReckoned(check);
        by0(check);
        twelveCalls(check);
        costAboveTheLimit(check);
        greatestGas(check);
        refused(check);
        eachThingCosts(check);
        eachOperationCosts2(check);
        chargedTheWholeLimit(check);
        theStoreIsAsBefore(check);
        failedWhateverIsBehind(check);
        check.finish();
    }

    /** "The STORE has an int for each int, 0 at first". */
    private static void anIntForEachInt(Check check) {
        int[] edges = {0, 1, -1, 31, 32, 33, 600, 65536, Integer.MAX_VALUE, Integer.MAX_VALUE - 1, Integer.MIN_VALUE,
            Integer.MIN_VALUE + 1};
        GasContract x = Check.compiled("fn s(k,v){store[k]=v;}fn l(k){return load[k];}");
        for (int key : edges) {
            check.due("load(" + key + ")", x.load(key), 0);
            check.dueCall(x, 1, 23, Check.abc(key, 0, 0), DONE, 0, 23);
        }
        check.due("stored()", x.stored(), 0);
        for (int i = 0; i < edges.length; i++) {
            check.dueCall(x, 0, 42, Check.abc(edges[i], edges[edges.length - 1 - i], 0), DONE, 0, 42);
        }
        for (int i = 0; i < edges.length; i++) {
            int value = edges[edges.length - 1 - i];
            check.due("load(" + edges[i] + ")", x.load(edges[i]), value);
            check.dueCall(x, 1, 23, Check.abc(edges[i], 0, 0), DONE, value, 23);
        }
        check.due("all but the one that is 0", x.stored(), edges.length - 1);
    }

    /** "at most 32 may be other than 0"; it fails "if a 33rd number of the store would be other than 0". */
    private static void atMost32OtherThan0(Check check) {
        GasContract x = Check.compiled("fn s(k,v){store[k]=v;}fn t(k,v){let z=s(k,v);}fn two(k,l,v){store[k]=0;store[l]=v;}"
                + "fn other(k,l,v){store[l]=v;store[k]=0;}fn z(k){store[k]=1;return 1/0;}");
        for (int i = 1; i <= 32; i++) {
            check.dueCall(x, 0, 42, Check.abc(-i, i, 0), DONE, 0, 42);
            check.due("stored()", x.stored(), i);
        }
        check.dueCall(x, 0, 42, Check.abc(0, 1, 0), FAILED, 0, 42);
        check.dueCall(x, 0, 50000, Check.abc(1, -1, 0), FAILED, 0, 50000);
        check.dueCall(x, 1, 500, Check.abc(1, 1, 0), FAILED, 0, 500);
        check.dueCall(x, 0, 42, Check.abc(0, 0, 0), DONE, 0, 42);
        check.dueCall(x, 0, 42, Check.abc(-32, 99, 0), DONE, 0, 42);
        check.due("another number in place of the 32nd", x.load(-32), 99);
        check.dueCall(x, 3, 500, Check.abc(-1, 5, 5), FAILED, 0, 500);
        check.due("the first is still there", x.load(-1), 1);
        check.due("the 33rd is not", x.load(5), 0);
        check.dueCall(x, 2, 500, Check.abc(-1, 5, 6), DONE, 0, 84);
        check.due("one went", x.load(-1), 0);
        check.due("one came", x.load(5), 6);
        check.due("stored()", x.stored(), 32);
        for (int i = 2; i <= 31; i++) {
            check.due("the others", x.load(-i), i);
        }
        check.dueCall(x, 0, 42, Check.abc(5, 0, 0), DONE, 0, 42);
        check.due("stored()", x.stored(), 31);
        check.dueCall(x, 0, 42, Check.abc(7, 7, 0), DONE, 0, 42);
        check.due("stored()", x.stored(), 32);
        check.dueCall(x, 0, 42, Check.abc(8, 8, 0), FAILED, 0, 42);
    }

    /** "A TRANSACTION calls a function with ints"; "function f with its parameters out of a, b, c". */
    private static void parametersOutOfThree(Check check) {
        GasContract x = Check.compiled("fn n(){let a=0;return a;}fn p(a){let b=0;return a*100+b;}"
                + "fn q(a,b){let c=0;return a*100+b*10+c;}fn r(a,b,c){return a*100+b*10+c;}");
        int[] given = {0, 700, 780, 789};
        int[] cost = {3 + 3, 3 + 9, 3 + 15, 15};
        for (int f = 0; f < 4; f++) {
            check.dueCall(x, f, 50, Check.abc(7, 8, 9), DONE, given[f], cost[f]);
        }
        int[] least = Check.abc(Integer.MIN_VALUE, Integer.MIN_VALUE, Integer.MAX_VALUE);
        check.dueCall(x, 3, 50, least, DONE, Integer.MIN_VALUE * 110 + Integer.MAX_VALUE, 15);
    }

    /** "Statements are done one by one". */
    private static void oneByOne(Check check) {
        check.dueRun("fn f(a){a=a+1;a=a*2;a=a-3;return a;}", 9, 6 * 3 + 3, 5);
        check.dueRun("fn f(){store[1]=5;store[1]=load[1]*3;store[2]=load[1]+1;return load[2];}", 16,
                42 + 65 + 65 + 23);
        check.dueRun("fn f(n){let a=0;let b=1;while 0<n{let t=a+b;a=b;b=t;n=n-1;}return a;}", 55, 6 + 10 * 24 + 6 + 3, 10);
    }

    /** "a variable whose let was not done is 0, or false". */
    private static void letsThatWereNotDone(Check check) {
        String text = "fn f(a){if a==1{let i=9;let b=true;}if b{return 100+i;}return i;}";
        check.dueRun(text, 109, 6 + 6 + 3 + 6, 1);
        check.dueRun(text, 0, 6 + 3 + 3, 2);
        check.dueRun("fn f(){while false{let i=9;}return i;}", 0, 6);
        check.dueRun("fn f(){if true{}else{let b=true;}require !b;return 4;}", 4, 3 + 5 + 3);
        GasContract x = Check.compiled(text + "fn g(){let z=f(1);return f(2);}"
                + "fn h(n){if n==0{return 0;}let k=n;return h(n-1)+k*10;}"
                + "fn v(n){if n==2{let k=7;return v(1)*10+k;}return k;}");
        check.dueCall(x, 0, 99, Check.abc(1, 0, 0), DONE, 109, 21);
        check.dueCall(x, 0, 99, Check.abc(2, 0, 0), DONE, 0, 12);
        check.dueCall(x, 1, 99, NOTHING, DONE, 0, 1 + 10 + 21 + 2 + 1 + 10 + 12 + 2);
        check.due("its own variables in each call", x.call(2, 999, 3, 0, 0), DONE);
        check.due("result(0)", x.result(0), 60);
        check.due("a let that another call of it did", x.call(3, 999, 2, 0, 0), DONE);
        check.due("result(0)", x.result(0), 7);
    }

    /** "return gives its value; a function that comes to its end gives 0." */
    private static void returnAndTheEnd(Check check) {
        check.dueRun("fn f(){return 5;store[1]=1;}", 5, 3);
        check.dueRun("fn f(){while true{if true{while true{return 6;}}}}", 6, 12);
        check.dueRun("fn f(a){a=5;}", 0, 3);
        check.dueRun("fn f(a){if a==1{return 5;}}", 0, 6, 2);
        GasContract x = Check.compiled("fn e(a){a=9;}fn r(a){return a;return 1;}fn g(){return r(3)+e(4)+r(5);}");
        check.dueCall(x, 2, 99, NOTHING, DONE, 8, 3 * 11 + 3 + 3 + 3 + 4 + 2);
    }

    /** The parts of an E that were reckoned ahead of a call are there behind it, whatever its statements are. */
    private static void partsWaitForACall(Check check) {
        GasContract x = Check.compiled("fn f(n){while 0<n{n=n-1;}if n==0{}else{}return 5;}"
                + "fn g(){return 100-f(3)*f(2);}fn h(n){if n==1{n=2;}else{store[7]=n;}let a=n;require 0<a||a<=0&&n<0;}"
                + "fn i(){store[8-h(1)]=9-h(2);let b=7==7+h(3);require b;return 10*(4-h(1))-h(5);}");
        check.dueCall(x, 1, 119, Check.abc(0, 0, 0), DONE, 75, 1 + 62 + 50 + 6);
        check.due("statements of every kind", x.call(3, 999, 0, 0, 0), DONE);
        check.due("result(0)", x.result(0), 40);
        check.due("load(8)", x.load(8), 9);
        check.due("load(7)", x.load(7), 5);
    }

    /** "Ints wrap". */
    private static void intsWrap(Check check) {
        int least = Integer.MIN_VALUE;
        int most = Integer.MAX_VALUE;
        check.dueRun("fn f(a,b){return a+b;}", least, 6, most, 1);
        check.dueRun("fn f(a,b){return a+b;}", -2, 6, most, most);
        check.dueRun("fn f(a,b){return a+b;}", most, 6, least, -1);
        check.dueRun("fn f(a,b){return a-b;}", most, 6, least, 1);
        check.dueRun("fn f(a,b){return a-b;}", least, 6, most, -1);
        check.dueRun("fn f(a,b){return a*b;}", 1, 6, most, most);
        check.dueRun("fn f(a,b){return a*b;}", least, 6, least, -1);
        check.dueRun("fn f(a,b){return a*b;}", 0, 6, 65536, 65536);
        check.dueRun("fn f(a){return -a;}", least, 5, least);
        check.dueRun("fn f(){return -2147483647-1;}", least, 8);
        check.dueRun("fn f(){store[2147483647+1]=5;return load[-2147483647-1];}", 5, 45 + 28);
        String tell = "{return 1;}return 0;}";
        check.dueRun("fn f(a){if a+1<a" + tell, 1, 12, most);
        check.dueRun("fn f(a,b){if a<b" + tell, 1, 9, least, most);
        check.dueRun("fn f(a,b){if a<=b" + tell, 0, 9, most, least);
        check.dueRun("fn f(a,b){if a<b" + tell, 0, 9, least, least);
    }

    /** "/ and % are towards 0." */
    private static void towards0(Check check) {
        int[][] rows = {{7, 2, 3, 1}, {-7, 2, -3, -1}, {7, -2, -3, 1}, {-7, -2, 3, -1}, {1, 2, 0, 1}, {-1, 2, 0, -1},
            {Integer.MIN_VALUE, -1, Integer.MIN_VALUE, 0}, {Integer.MIN_VALUE, 1, Integer.MIN_VALUE, 0},
            {Integer.MIN_VALUE, 3, -715827882, -2}, {Integer.MAX_VALUE, Integer.MIN_VALUE, 0, Integer.MAX_VALUE},
            {Integer.MIN_VALUE, Integer.MIN_VALUE, 1, 0}, {0, -5, 0, 0}};
        for (int[] row : rows) {
            check.dueRun("fn f(a,b){return a/b;}", row[2], 6, row[0], row[1]);
            check.dueRun("fn f(a,b){return a%b;}", row[3], 6, row[0], row[1]);
        }
    }

    /** "< <= of ints, == and != of two alike": of ints that are alike, next to one another, and the least and the greatest. */
    private static void comparisons(Check check) {
        int[] ints = {Integer.MIN_VALUE, Integer.MIN_VALUE + 1, -1, 0, 1, Integer.MAX_VALUE - 1, Integer.MAX_VALUE};
        String tell = "{return 1;}return 0;}";
        String text = "fn e(a,b){if a==b" + tell + "fn u(a,b){if a!=b" + tell + "fn l(a,b){if a<b" + tell
                + "fn m(a,b){if a<=b" + tell;
        for (int a : ints) {
            GasContract x = Check.compiled(text);
            for (int b : ints) {
                boolean[] due = {a == b, a != b, a < b, a <= b};
                for (int f = 0; f < due.length; f++) {
                    check.dueCall(x, f, 9, Check.abc(a, b, 0), DONE, due[f] ? 1 : 0, 9);
                }
            }
        }
    }

    /** "== and != of two alike, ! && || of bools": every bool there is, from true and false and from each operation. */
    private static void bools(Check check) {
        String[] trues = {"true", "!false", "1==1", "1!=2", "1<2", "2<=2", "true&&true", "false||true", "!(1<1)", "!!true"};
        String[] falses = {"false", "!true", "1==2", "1!=1", "2<2", "3<=2", "true&&false", "false||false", "!(1<2)", "!!false"};
        for (int i = 0; i < trues.length; i++) {
            for (int j = 0; j < trues.length; j++) {
                String t = "(" + trues[i] + ")";
                String f = "(" + falses[j] + ")";
                hold(check, t + "==!" + f);
                hold(check, t + "!=" + f);
                hold(check, "!(" + t + "==" + f + ")");
                hold(check, t + "==(" + trues[j] + ")");
                hold(check, f + "==(" + falses[i] + ")");
                hold(check, "!(" + t + "!=(" + trues[j] + "))");
                hold(check, t + "||" + f);
                hold(check, f + "||" + t);
                hold(check, "!(" + t + "&&" + f + ")");
                hold(check, "!(" + f + "&&" + t + ")");
            }
        }
    }

    private static void hold(Check check, String bool) {
        GasContract x = Check.compiled("fn f(){require " + bool + ";}");
        check.due("require " + bool, x.call(0, 999, 0, 0, 0), DONE);
    }

    /** "&& and || don't reckon their second part if the first one tells." */
    private static void secondPartsNotReckoned(Check check) {
        String tell = "{return 1;}return 0;}";
        check.dueRun("fn f(a){if a==1&&1/0==1" + tell, 0, 11, 2);
        check.dueRun("fn f(a){if a==1||1/0==1" + tell, 1, 11, 1);
        check.dueRun("fn f(a){if a!=1&&true" + tell, 1, 12, 2);
        check.dueRun("fn f(a){if a!=1||false" + tell, 0, 12, 1);
        check.dueRun("fn f(){if false&&1/0==1&&1/0==1" + tell, 0, 10);
        check.dueRun("fn f(){if true||1/0==1||1/0==1" + tell, 1, 10);
        check.dueRun("fn f(){if false&&1/0==1||true" + tell, 1, 11);
        check.dueRun("fn f(){if true||1/0==1&&1/0==1" + tell, 1, 8);
        check.dueRun("fn f(){let b=true||1/0==1;let c=false&&1/0==1;if b==c" + tell, 0, 5 + 5 + 9);
        GasContract x = Check.compiled("fn s(k){store[k]=1;return k;}fn f(a){require a<1&&s(5)==5||a==1||s(6)==6;}");
        check.due("the first tells", x.call(1, 999, 0, 0, 0), DONE);
        check.due("load(5)", x.load(5), 1);
        check.due("load(6)", x.load(6), 0);
        check.dueCall(x, 1, 999, Check.abc(1, 0, 0), DONE, 0, 4 + 2 + 2 + 4 + 2 + 2);
        check.due("load(6)", x.load(6), 0);
        check.due("neither tells", x.call(1, 999, 2, 0, 0), DONE);
        check.due("load(6)", x.load(6), 1);
    }

    /** "It FAILS if / or % is by 0". */
    private static void by0(Check check) {
        for (String sign : new String[] {"/", "%"}) {
            GasContract x = Check.compiled("fn f(a,b){return a" + sign + "b;}fn g(a,b){let c=f(a,b);return 3;}"
                    + "fn h(a,b){if a" + sign + "b==0{}}");
            for (int a : new int[] {0, 1, -1, Integer.MIN_VALUE, Integer.MAX_VALUE}) {
                for (int f = 0; f < 3; f++) {
                    check.dueCall(x, f, 500, Check.abc(a, 0, 0), FAILED, 0, 500);
                }
            }
            check.due("by another", x.call(0, 500, 0, 1, 0), DONE);
        }
    }

    /** "if more than 12 calls (its own among them) would be under way". */
    private static void twelveCalls(Check check) {
        GasContract x = Check.compiled("fn f(n){if n==1{return 1;}return f(n-1)+1;}fn g(n){return f(n);}"
                + "fn i(a){return a;}fn n(){return i(i(i(i(i(i(i(i(i(i(i(i(i(i(i(4)))))))))))))));}"
                + "fn t(){return f(11)+f(11)*f(11);}fn s(n){store[n]=n;if n==1{return 1;}return s(n-1);}");
        check.dueCall(x, 0, 9999, Check.abc(12, 0, 0), DONE, 12, 11 * 25 + 9);
        check.dueCall(x, 0, 9999, Check.abc(13, 0, 0), FAILED, 0, 9999);
        check.dueCall(x, 0, 9999, Check.abc(-1, 0, 0), FAILED, 0, 9999);
        check.dueCall(x, 1, 9999, Check.abc(11, 0, 0), DONE, 11, 10 * 25 + 9 + 13);
        check.dueCall(x, 1, 9999, Check.abc(12, 0, 0), FAILED, 0, 9999);
        check.dueCall(x, 3, 9999, NOTHING, DONE, 4, 15 * 13 + 3);
        check.dueCall(x, 4, 9999, NOTHING, DONE, 132, 3 * (11 + 10 * 25 + 9) + 6);
        check.dueCall(x, 5, 9999, Check.abc(13, 0, 0), FAILED, 0, 9999);
        check.due("nothing was stored", x.stored(), 0);
        check.due("12 calls", x.call(5, 9999, 12, 0, 0), DONE);
        check.due("12 were stored", x.stored(), 12);
    }

    /** "or if its COST is above the limit"; "Otherwise it is charged its cost." */
    private static void costAboveTheLimit(Check check) {
        for (int n = 0; n < 4; n++) {
            GasContract x = Check.compiled("fn f(n){store[1]=n;let s=0;while s<n{s=s+1;}return load[1]+s;}");
            int cost = 42 + 3 + 12 * n + 6 + 26;
            for (int gas = 0; gas < cost; gas++) {
                check.dueCall(x, 0, gas, Check.abc(n, 0, 0), FAILED, 0, gas);
            }
            check.due("stored()", x.stored(), 0);
            check.dueCall(x, 0, cost, Check.abc(n, 0, 0), DONE, 2 * n, cost);
            check.dueCall(x, 0, cost + 1, Check.abc(n, 0, 0), DONE, 2 * n, cost);
            check.dueCall(x, 0, 50000, Check.abc(n, 0, 0), DONE, 2 * n, cost);
        }
        GasContract empty = Check.compiled("fn f(){}");
        check.dueCall(empty, 0, 0, NOTHING, DONE, 0, 0);
    }

    /** "IllegalArgumentException if gas is not 0 .. 50000." */
    private static void greatestGas(Check check) {
        String loop = "while 0<n{n=n-1;}}";
        GasContract x = Check.compiled("fn f(n){let x=-(1+1);let y=1+1;" + loop + "fn g(n){let x=-(1+1);let y=1+1;require true;" + loop);
        check.dueCall(x, 0, 50000, Check.abc(4165, 0, 0), DONE, 0, 50000);
        check.dueCall(x, 0, 49999, Check.abc(4165, 0, 0), FAILED, 0, 49999);
        check.dueCall(x, 0, 50000, Check.abc(4166, 0, 0), FAILED, 0, 50000);
        check.dueCall(x, 1, 50000, Check.abc(4165, 0, 0), FAILED, 0, 50000);
        for (int gas : new int[] {-1, 50001, Integer.MIN_VALUE, Integer.MAX_VALUE}) {
            check.dueThrow("gas " + gas, IllegalArgumentException.class, () -> x.call(0, gas, 1, 0, 0));
        }
        check.dueCall(x, 0, 0, Check.abc(0, 0, 0), FAILED, 0, 0);
    }

    /** "require of false ends it, as REFUSED (if its cost up to there, the require's own too, is within the limit)." */
    private static void refused(Check check) {
        GasContract x = Check.compiled("fn f(a){let b=a;require a==1;return b/(a-1);}"
                + "fn g(a){store[1]=1;let c=f(a);return 9;}fn h(){require false;}fn b(){require true&&false;}");
        check.dueCall(x, 0, 9, Check.abc(2, 0, 0), REFUSED, 0, 9);
        check.dueCall(x, 0, 8, Check.abc(2, 0, 0), FAILED, 0, 8);
        check.dueCall(x, 0, 10, Check.abc(2, 0, 0), REFUSED, 0, 10);
        check.dueCall(x, 0, 50000, Check.abc(2, 0, 0), REFUSED, 0, 50000);
        check.dueCall(x, 0, 50000, Check.abc(1, 0, 0), FAILED, 0, 50000);
        check.dueCall(x, 1, 50000, Check.abc(2, 0, 0), REFUSED, 0, 50000);
        check.dueCall(x, 1, 42 + 1 + 10 + 9, Check.abc(2, 0, 0), REFUSED, 0, 62);
        check.dueCall(x, 1, 42 + 1 + 10 + 8, Check.abc(2, 0, 0), FAILED, 0, 61);
        check.dueCall(x, 2, 3, NOTHING, REFUSED, 0, 3);
        check.dueCall(x, 2, 2, NOTHING, FAILED, 0, 2);
        check.dueCall(x, 3, 6, NOTHING, REFUSED, 0, 6);
        check.dueCall(x, 3, 5, NOTHING, FAILED, 0, 5);
        check.due("stored()", x.stored(), 0);
    }

    /** "Each thing that is reckoned or done costs: ..." */
    private static void eachThingCosts(Check check) {
        check.dueRun("fn f(){return 5;}", 5, 1 + 2);
        check.dueRun("fn f(){let b=true;}", 0, 1 + 2);
        check.dueRun("fn f(){let b=false;}", 0, 1 + 2);
        check.dueRun("fn f(a){let b=a;}", 0, 1 + 2);
        check.dueRun("fn f(a){a=a;}", 0, 1 + 2);
        check.dueRun("fn f(a){return ((a));}", 8, 1 + 2, 8);
        check.dueRun("fn f(){return load[3];}", 0, 1 + 20 + 2);
        check.dueRun("fn f(){return load[load[3]];}", 0, 1 + 20 + 20 + 2);
        check.dueRun("fn f(){store[3]=4;}", 0, 1 + 1 + 40);
        check.dueRun("fn f(){store[3]=0;}", 0, 1 + 1 + 40);
        check.dueRun("fn f(){if true{}}", 0, 1 + 2);
        check.dueRun("fn f(){if false{}else{}}", 0, 1 + 2);
        check.dueRun("fn f(){if false{let a=1;}else{let b=1;b=2;}}", 0, 1 + 2 + 3 + 3);
        check.dueRun("fn f(){while false{store[1]=1;}}", 0, 1 + 2);
        check.dueRun("fn f(){let b=true;while b{b=false;}}", 0, 3 + (1 + 2) + 3 + (1 + 2));
        check.dueRun("fn f(){require true;}", 0, 1 + 2);
        GasContract x = Check.compiled("fn e(){}fn p(a,b,c){}fn c(){let z=e();}fn d(){return p(1,e(),e());}");
        check.dueCall(x, 0, 0, NOTHING, DONE, 0, 0);
        check.dueCall(x, 1, 0, NOTHING, DONE, 0, 0);
        check.dueCall(x, 2, 12, NOTHING, DONE, 0, 10 + 2);
        check.dueCall(x, 2, 11, NOTHING, FAILED, 0, 11);
        check.dueCall(x, 3, 33, NOTHING, DONE, 0, 1 + 10 + 10 + 10 + 2);
        check.dueCall(x, 3, 32, NOTHING, FAILED, 0, 32);
    }

    /** "each operation 2 (&& and || also when the second part isn't reckoned)". */
    private static void eachOperationCosts2(Check check) {
        for (String sign : new String[] {"+", "-", "*", "/", "%", "==", "!=", "<", "<="}) {
            check.dueRun("fn f(){let a=1" + sign + "1;}", 0, 1 + 1 + 2 + 2);
            check.dueRun("fn f(){let a=(1" + sign + "2)==(1" + sign + "2);}", 0, 4 + 4 + 2 + 2);
        }
        check.dueRun("fn f(){let a=-1;}", 0, 1 + 2 + 2);
        check.dueRun("fn f(){let a=!true;}", 0, 1 + 2 + 2);
        check.dueRun("fn f(){let a=true&&true;}", 0, 1 + 1 + 2 + 2);
        check.dueRun("fn f(){let a=true&&false;}", 0, 1 + 1 + 2 + 2);
        check.dueRun("fn f(){let a=false&&true;}", 0, 1 + 2 + 2);
        check.dueRun("fn f(){let a=false||false;}", 0, 1 + 1 + 2 + 2);
        check.dueRun("fn f(){let a=true||false;}", 0, 1 + 2 + 2);
    }

    /** "it is charged its whole limit, as one whose cost passes the limit is". */
    private static void chargedTheWholeLimit(Check check) {
        GasContract x = Check.compiled("fn z(){return 1/0;}fn r(){require false;}fn l(){while true{}}fn d(){return 1;}");
        for (int gas : new int[] {4, 5, 100, 49999, 50000}) {
            check.dueCall(x, 0, gas, NOTHING, FAILED, 0, gas);
            check.dueCall(x, 1, gas, NOTHING, REFUSED, 0, gas);
            check.dueCall(x, 2, gas, NOTHING, FAILED, 0, gas);
            check.dueCall(x, 3, gas, NOTHING, DONE, 1, 3);
        }
        for (int f = 0; f < 4; f++) {
            check.dueCall(x, f, 0, NOTHING, FAILED, 0, 0);
        }
    }

    /** "... and the store is as before it." */
    private static void theStoreIsAsBefore(Check check) {
        GasContract x = Check.compiled("fn fill(n){while 0<n{store[n]=n;n=n-1;}}"
                + "fn mix(n,how){while 0<n{store[n]=0;store[n+100]=n;n=n-1;}require how!=1;if how==2{n=1/0;}while how==3{}}");
        check.due("fill", x.call(0, 50000, 32, 0, 0), DONE);
        int[] outcomes = {DONE, REFUSED, FAILED, FAILED};
        for (int how = 3; how >= 1; how--) {
            check.due("mix", x.call(1, 50000, 32, how, 0), outcomes[how]);
            check.due("mix with little gas", x.call(1, 500 * how, 32, how, 0), FAILED);
            check.due("stored()", x.stored(), 32);
            for (int key = 1; key <= 32; key++) {
                check.due("load(" + key + ")", x.load(key), key);
                check.due("load(" + (key + 100) + ")", x.load(key + 100), 0);
            }
        }
        check.due("mix", x.call(1, 50000, 32, 0, 0), DONE);
        check.due("load(132)", x.load(132), 32);
        check.due("load(32)", x.load(32), 0);
    }

    /** "(A transaction of which it is so that its cost passes the limit at some time has failed, whatever else would happen behind that ...)" */
    private static void failedWhateverIsBehind(Check check) {
        GasContract x = Check.compiled("fn r(){store[1]=1;require false;}fn z(){let a=1;let b=a/0;require false;}"
                + "fn q(n){while 0<n{n=n-1;}require false;return 1/0;}");
        for (int gas = 0; gas < 45; gas++) {
            check.dueCall(x, 0, gas, NOTHING, FAILED, 0, gas);
        }
        check.dueCall(x, 0, 45, NOTHING, REFUSED, 0, 45);
        for (int gas = 0; gas < 30; gas++) {
            check.dueCall(x, 1, gas, NOTHING, FAILED, 0, gas);
        }
        check.dueCall(x, 2, 12 * 5 + 6 + 2, Check.abc(5, 0, 0), FAILED, 0, 68);
        check.dueCall(x, 2, 12 * 5 + 6 + 3, Check.abc(5, 0, 0), REFUSED, 0, 69);
        check.dueCall(x, 2, 69, Check.abc(6, 0, 0), FAILED, 0, 69);
        check.due("stored()", x.stored(), 0);
    }
}
