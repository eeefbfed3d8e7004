/** Promise 6: what transactions give, what they cost, and how they end. */
public final class CallTest {
    private static final int DONE = 0;
    private static final int FAILED = 1;
    private static final int REFUSED = 2;

    public static void main(String[] args) {
        Check check = new Check();
        wrongArguments(check);
        parameters(check);
        values(check);
        secondPartsThatAreNotReckoned(check);
        statements(check);
        calls(check);
        callsUnderWay(check);
        division(check);
        refused(check);
        refusedInsideACall(check);
        gasEndsEveryLoop(check);
        deepestStack(check);
        nothingIsLeftOfEarlierOnes(check);
        check.finish();
    }

    private static void wrongArguments(Check check) {
        GasContract x = Check.with("fn f(){}fn g(a){store[1]=a;}");
        check.dueThrow("no contract", IllegalStateException.class, () -> x.call(9, -1, 0, 0, 0));
        x.compile();
        for (int f : new int[] {-1, 2, Integer.MIN_VALUE, Integer.MAX_VALUE}) {
            check.dueThrow("function " + f, IndexOutOfBoundsException.class, () -> x.call(f, -1, 0, 0, 0));
        }
        for (int gas : new int[] {-1, 50001, Integer.MIN_VALUE, Integer.MAX_VALUE}) {
            check.dueThrow("gas " + gas, IllegalArgumentException.class, () -> x.call(1, gas, 5, 0, 0));
        }
        check.due("stored()", x.stored(), 0);
        check.due("result(2)", x.result(2), 0);
        check.dueCall(x, 0, 0, Check.abc(0, 0, 0), DONE, 0, 0);
        check.dueCall(x, 1, 50000, Check.abc(5, 0, 0), DONE, 0, 42);
        check.dueCall(x, 1, 0, Check.abc(5, 0, 0), FAILED, 0, 0);
    }

    private static void parameters(Check check) {
        check.dueRun("fn f(a,b,c){return a*100+b*10+c;}", 123, 15, 1, 2, 3);
        check.dueRun("fn f(a,b){return a*10+b;}", 12, 9, 1, 2, 3);
        check.dueRun("fn f(a){let b=0;return a*10+b;}", 10, 12, 1, 2, 3);
        check.dueRun("fn f(){return 7;}", 7, 3, 1, 2, 3);
        check.dueRun("fn f(a){a=a+1;return a;}", Integer.MIN_VALUE, 9, Integer.MAX_VALUE);
    }

    private static void values(Check check) {
        check.dueRun("fn f(a,b){return a+b;}", Integer.MIN_VALUE, 6, Integer.MAX_VALUE, 1);
        check.dueRun("fn f(a,b){return a-b;}", Integer.MAX_VALUE, 6, Integer.MIN_VALUE, 1);
        check.dueRun("fn f(a,b){return a*b;}", 0, 6, 65536, 65536);
        check.dueRun("fn f(a){return -a;}", Integer.MIN_VALUE, 5, Integer.MIN_VALUE);
        check.dueRun("fn f(a,b){return a/b;}", Integer.MIN_VALUE, 6, Integer.MIN_VALUE, -1);
        check.dueRun("fn f(a,b){return a%b;}", 0, 6, Integer.MIN_VALUE, -1);
        check.dueRun("fn f(a,b){return a/b;}", -3, 6, -7, 2);
        check.dueRun("fn f(a,b){return a%b;}", -1, 6, -7, 2);
        check.dueRun("fn f(a,b){return a%b;}", 1, 6, 7, -2);
        check.dueRun("fn f(){return 20-5-3;}", 12, 9);
        check.dueRun("fn f(){return 100/5/2%7*3;}", 9, 15);
        check.dueRun("fn f(){return 2+3*4-(2+3)*4;}", -6, 18);
        check.dueRun("fn f(){return -2*-3- -4;}", 10, 15);
        check.dueRun("fn f(){return --7;}", 7, 7);
        check.dueRun("fn f(){return ((((7))));}", 7, 3);
        check.dueRun("fn f(){return 2147483647;}", 2147483647, 3);
        String tell = "{return 1;}return 2;}";
        check.dueRun("fn f(a,b){if a<b" + tell, 1, 9, -5, 3);
        check.dueRun("fn f(a,b){if a<b" + tell, 2, 9, 3, 3);
        check.dueRun("fn f(a,b){if a<b" + tell, 1, 9, Integer.MIN_VALUE, Integer.MAX_VALUE);
        check.dueRun("fn f(a,b){if a<=b" + tell, 1, 9, 3, 3);
        check.dueRun("fn f(a,b){if a<=b" + tell, 2, 9, 4, 3);
        check.dueRun("fn f(a,b){if a==b" + tell, 1, 9, 3, 3);
        check.dueRun("fn f(a,b){if a==b" + tell, 2, 9, 3, 4);
        check.dueRun("fn f(a,b){if a!=b" + tell, 1, 9, 3, 4);
        check.dueRun("fn f(a,b){if a!=b" + tell, 2, 9, 3, 3);
        check.dueRun("fn f(){if !true" + tell, 2, 8);
        check.dueRun("fn f(){if !!true" + tell, 1, 10);
        check.dueRun("fn f(){if true==false" + tell, 2, 9);
        for (String comparison : new String[] {"1==1", "1!=2", "1<2", "1<=2"}) {
            check.dueRun("fn f(){if true==(" + comparison + ")" + tell, 1, 12);
            check.dueRun("fn f(){if !(" + comparison + ")==false" + tell, 1, 14);
        }
        check.dueRun("fn f(a){if (a<1)!=(a<2)" + tell, 1, 15, 1);
        check.dueRun("fn f(){if false||true&&false" + tell, 2, 12);
        check.dueRun("fn f(){if true||true&&false" + tell, 1, 8);
        check.dueRun("fn f(a){return load[a]+load[-a];}", 0, 48, 3);
    }

    private static void secondPartsThatAreNotReckoned(Check check) {
        String tell = "{return 1;}return 2;}";
        check.dueRun("fn f(a){if a!=0&&1/a==1" + tell, 2, 11, 0);
        check.dueRun("fn f(a){if a!=0&&1/a==1" + tell, 1, 18, 1);
        check.dueRun("fn f(a){if a==0||1/a==1" + tell, 1, 11, 0);
        check.dueRun("fn f(a){if a==0||1/a==1" + tell, 2, 18, 2);
        check.dueRun("fn f(){if false&&true&&true" + tell, 2, 10);
        check.dueRun("fn f(){if true||false||false" + tell, 1, 10);
        check.dueRun("fn f(){if true&&false&&true" + tell, 2, 11);
        check.dueRun("fn f(){if true&&true&&true" + tell, 1, 12);
        check.dueRun("fn f(){if false||false||true" + tell, 1, 12);
        check.dueRun("fn f(){if false&&true||true&&true" + tell, 1, 14);
        check.dueRun("fn f(){let x=true&&false;let y=x||true;if y&&!x" + tell, 1, 23);
    }

    private static void statements(Check check) {
        check.dueRun("fn f(){}", 0, 0);
        check.dueRun("fn f(){let a=5;}", 0, 3);
        check.dueRun("fn f(a){a=5;}", 0, 3);
        check.dueRun("fn f(){store[1]=2;}", 0, 42);
        check.dueRun("fn f(){store[1]=2;store[1]=load[1]+1;return load[1];}", 3, 42 + 65 + 23);
        check.dueRun("fn f(){require true;}", 0, 3);
        check.dueRun("fn f(){if true{}}", 0, 3);
        check.dueRun("fn f(){if false{return 1;}else{return 2;}return 3;}", 2, 6);
        check.dueRun("fn f(){if true{return 1;}else{return 2;}return 3;}", 1, 6);
        check.dueRun("fn f(){if true{}else{return 2;}return 3;}", 3, 6);
        check.dueRun("fn f(){if false{return 1;}return 3;}", 3, 6);
        check.dueRun("fn f(){while false{}}", 0, 3);
        check.dueRun("fn f(n){let s=0;while 0<n{s=s+n;n=n-1;}return s;}", 10, 3 + 4 * 18 + 6 + 3, 4);
        check.dueRun("fn f(n){while true{n=n+1;if n==10{return n;}}}", 10, 15 + 3, 9);
        check.dueRun("fn f(){return 1;return 2;}", 1, 3);
        check.dueRun("fn f(a){if a<0{let b=7;let c=true;}if c{return 1;}return b;}", 0, 6 + 3 + 3, 1);
        check.dueRun("fn f(a){if a<0{let b=7;let c=true;}if c{return 1;}return b;}", 1, 6 + 6 + 3 + 3, -1);
        check.dueRun("fn f(n){let s=0;while n!=0{let t=n%10;s=s+t;n=n/10;}return s;}", 6, 3 + 3 * 24 + 6 + 3, 123);
    }

    private static void calls(Check check) {
        check.dueRun("fn f(n){if n<=1{return 1;}return n*f(n-1);}", 120, 4 * 25 + 9, 5);
        GasContract x = Check.compiled("fn a(p,q){p=p-q;return p;}fn b(p,q,r){let v=a(q,p)*a(r,p);return v+p;}"
                + "fn c(){let z=a(1,2);}fn d(n){store[n]=n;return n;}fn e(){return d(1)+d(2)*d(3)+load[2];}");
        check.dueCall(x, 0, 99, Check.abc(9, 4, 0), DONE, 5, 9);
        check.dueCall(x, 1, 99, Check.abc(1, 4, 6), DONE, 16, 52);
        check.dueCall(x, 2, 99, Check.abc(0, 0, 0), DONE, 0, 23);
        check.dueCall(x, 4, 999, Check.abc(0, 0, 0), DONE, 9, 3 * 56 + 21 + 6 + 2);
        check.due("load(3)", x.load(3), 3);
        GasContract y = Check.compiled("fn f(a,b,c){if a==0{return b*10+c;}return f(a-1,c,b);}");
        check.dueCall(y, 0, 99, Check.abc(1, 2, 3), DONE, 32, 39);
        GasContract z = Check.compiled("fn f(a){if 0<a{let b=a;return f(0-a);}if a<0{return b;}return 5;}");
        check.dueCall(z, 0, 99, Check.abc(3, 0, 0), DONE, 0, 40);
    }

    private static void callsUnderWay(Check check) {
        GasContract x = Check.compiled("fn f(n){if n==0{return 0;}return 1+f(n-1);}"
                + "fn g(n){return f(n);}fn h(n){let i=0;while i<n{i=i+1;let z=f(9);}return i;}");
        check.dueCall(x, 0, 5000, Check.abc(11, 0, 0), DONE, 11, 11 * 25 + 9);
        check.dueCall(x, 0, 5000, Check.abc(12, 0, 0), FAILED, 0, 5000);
        check.dueCall(x, 1, 5000, Check.abc(10, 0, 0), DONE, 10, 10 * 25 + 9 + 13);
        check.dueCall(x, 1, 5000, Check.abc(11, 0, 0), FAILED, 0, 5000);
        check.due("calls that have ended are not under way", x.call(2, 50000, 30, 0, 0), DONE);
        check.due("result(0)", x.result(0), 30);
    }

    private static void division(Check check) {
        GasContract x = Check.compiled("fn d(a,b){return a/b;}fn r(a,b){return a%b;}fn z(){let x=0/0;}");
        check.dueCall(x, 0, 77, Check.abc(5, 0, 0), FAILED, 0, 77);
        check.dueCall(x, 1, 78, Check.abc(5, 0, 0), FAILED, 0, 78);
        check.dueCall(x, 0, 3, Check.abc(5, 0, 0), FAILED, 0, 3);
        check.dueCall(x, 2, 50000, Check.abc(0, 0, 0), FAILED, 0, 50000);
        check.dueCall(x, 0, 6, Check.abc(0, 5, 0), DONE, 0, 6);
    }

    private static void refused(Check check) {
        GasContract x = Check.compiled("fn f(a){store[1]=a;require a==2;return 1/0;}fn g(){require false;}");
        check.dueCall(x, 0, 48, Check.abc(1, 0, 0), REFUSED, 0, 48);
        check.dueCall(x, 0, 47, Check.abc(1, 0, 0), FAILED, 0, 47);
        check.dueCall(x, 0, 500, Check.abc(1, 0, 0), REFUSED, 0, 500);
        check.dueCall(x, 0, 500, Check.abc(2, 0, 0), FAILED, 0, 500);
        check.dueCall(x, 1, 3, Check.abc(0, 0, 0), REFUSED, 0, 3);
        check.dueCall(x, 1, 2, Check.abc(0, 0, 0), FAILED, 0, 2);
        check.dueCall(x, 1, 0, Check.abc(0, 0, 0), FAILED, 0, 0);
        check.due("stored()", x.stored(), 0);
    }

    private static void refusedInsideACall(Check check) {
        GasContract x = Check.compiled("fn g(){require false;}fn f(){store[1]=1;let a=1+g();}");
        check.dueCall(x, 1, 500, Check.abc(0, 0, 0), REFUSED, 0, 500);
        check.dueCall(x, 1, 42 + 1 + 10 + 3, Check.abc(0, 0, 0), REFUSED, 0, 56);
        check.dueCall(x, 1, 42 + 1 + 10 + 2, Check.abc(0, 0, 0), FAILED, 0, 55);
        check.due("stored()", x.stored(), 0);
    }

    private static void gasEndsEveryLoop(Check check) {
        GasContract x = Check.compiled("fn f(){while true{}}fn g(){while true{if true{if false{}else{}}else{}}}"
                + "fn e(){}fn h(){while true{let z=e();}}fn s(n){while true{store[1]=n;n=n+1;}}");
        for (int f = 0; f < 5; f++) {
            if (f != 2) {
                check.dueCall(x, f, 50000, Check.abc(1, 0, 0), FAILED, 0, 50000);
            }
        }
        check.due("stored()", x.stored(), 0);
        check.dueRun("fn f(n){while 0<n{n=n-1;}}", 0, 12 * 4166 + 6, 4166);
    }

    /** Twelve calls of which each waits with as many parts as depth lets it. */
    private static void deepestStack(Check check) {
        GasContract x = Check.compiled("fn g(a,b,n){if n<1{return 1;}return 1+1*g(0,1,"
                + "0-1*g(0,1,".repeat(13) + "0-1*g(1,1,n-1)" + ")".repeat(14) + ";}");
        check.due("g(0, 0, 11)", x.call(0, 50000, 0, 0, 11), DONE);
        check.due("result(0)", x.result(0), 2);
        check.due("g(0, 0, 12)", x.call(0, 50000, 0, 0, 12), FAILED);
    }

    private static void nothingIsLeftOfEarlierOnes(Check check) {
        GasContract x = Check.compiled("fn w(a){let b=9;let c=true;return b;}"
                + "fn u(a){if a<0{let b=7;let c=true;}if c{return 1;}return b;}"
                + "fn v(a){let p=w(1);return u(1);}fn z(){return 1+2*(3+4*(5+6*(7/0)));}");
        check.dueCall(x, 0, 99, Check.abc(0, 0, 0), DONE, 9, 9);
        check.dueCall(x, 1, 99, Check.abc(0, 0, 0), DONE, 0, 12);
        check.dueCall(x, 2, 99, Check.abc(0, 0, 0), DONE, 0, 22 + 25);
        for (int i = 0; i < 400; i++) {
            check.due("z()", x.call(3, 99, 0, 0, 0), FAILED);
        }
        check.dueCall(x, 2, 99, Check.abc(0, 0, 0), DONE, 0, 22 + 25);
    }
}
