/** The document's sentences on the grammar: each quoted ahead of its test. */
public final class GrammarBoundaryTest {
    private static final String[] COMPARISONS = {"==", "!=", "<", "<="};

    public static void main(String[] args) {
        Check check = new Check();
        oneToEightFunctions(check);
        noneToThreeParameters(check);
        noneOrSomeStatements(check);
        perhapsElse(check);
        perhapsOneComparison(check);
        factors(check);
        noneOrSomeArguments(check);
        fromLeftToRight(check);
        whatBindsMore(check);
        theTextsEnd(check);
        check.finish();
    }

    /** "TEXT is FUNCTIONS, one to eight, up to its end."; "a ninth function (its fn)". */
    private static void oneToEightFunctions(Check check) {
        check.dueFault("", 0);
        check.dueFault("\n  ", 3);
        StringBuilder text = new StringBuilder();
        for (int many = 1; many <= 8; many++) {
            text.append("fn f").append(many).append("(){}");
            check.due("functions", Check.compiled(text.toString()).functions(-1), many);
            check.dueMarked(text + " ^;");
            check.dueMarked(text + "^f");
        }
        check.dueMarked(text + "^fn f9(){}");
        check.dueMarked(text + "^fn f1(){}");
        check.dueMarked(text + "^fn");
        check.dueMarked(text + "\n^fn @");
    }

    /** "FUNCTION: fn name ( names, commas between them, none to three ) BLOCK." */
    private static void noneToThreeParameters(Check check) {
        String[] lists = {"", "a", "a,b", "a,b,c"};
        for (int many = 0; many < lists.length; many++) {
            GasContract x = Check.compiled("fn f(" + lists[many] + "){}");
            check.due("parameters", x.functions(0), many);
            check.due("a call with parameters left over", x.call(0, 0, 1, 2, 3), 0);
        }
        check.dueMarked("fn f(a,b,c^,d){}");
        check.dueMarked("fn f(a,b,c^,){}");
        check.dueMarked("fn f(a,b,c^,a){}");
        check.dueMarked("fn f(a,b,c^,@");
        check.dueMarked("fn f(^,){}");
        check.dueMarked("fn f(a,^){}");
        check.dueMarked("fn f(a,b,^){}");
        check.dueMarked("fn f(a,^,b){}");
        check.dueMarked("fn f(a ^b){}");
        check.dueMarked("fn f(a^=1){}");
        check.dueMarked("fn f(^(a)){}");
        check.dueMarked("fn f(){}fn g(a,b,c){}fn h(a){}fn i(){}");
    }

    /** "BLOCK: { STATEMENTS, none or some }." */
    private static void noneOrSomeStatements(Check check) {
        check.dueRun("fn f(){}", 0, 0);
        check.dueRun("fn f(){if true{}else{}while false{}}", 0, 6);
        check.dueRun("fn f(a){" + "a=1;".repeat(147) + "}", 0, 147 * 3);
        check.dueRun("fn f(){" + "if true{}".repeat(65) + "}", 0, 65 * 3);
        check.dueMarked("fn f()^return 1;");
        check.dueMarked("fn f(){^{}}");
        check.dueMarked("fn f(){^;}");
        check.dueMarked("fn f(){return 1;^;}");
        check.dueMarked("fn f(){}^}");
    }

    /** "if E BLOCK, perhaps else BLOCK". */
    private static void perhapsElse(Check check) {
        check.dueRun("fn f(a){if a==1{return 5;}return 6;}", 5, 9, 1);
        check.dueRun("fn f(a){if a==1{return 5;}return 6;}", 6, 9, 2);
        check.dueRun("fn f(a){if a==1{a=5;}else{a=6;}return a;}", 5, 12, 1);
        check.dueRun("fn f(a){if a==1{a=5;}else{a=6;}return a;}", 6, 12, 2);
        String inner = "fn f(a,b){if a==1{if b==1{return 1;}else{return 2;}}return 3;}";
        check.dueRun(inner, 1, 15, 1, 1);
        check.dueRun(inner, 2, 15, 1, 2);
        check.dueRun(inner, 3, 9, 2, 2);
        check.dueMarked("fn f(){^else{}}");
        check.dueMarked("fn f(){if true{}else{}^else{}}");
        check.dueMarked("fn f(){while true{}^else{}}");
        check.dueMarked("fn f(){if true{}else ^if true{}}");
        check.dueMarked("fn f(){if true{}else^;}");
        check.dueMarked("fn f(){if true{}return 1;^else{}}");
    }

    /** "Comparison: a sum, perhaps one of == != < <= and another sum." */
    private static void perhapsOneComparison(Check check) {
        for (String one : COMPARISONS) {
            check.dueMarked("fn f(){require 1+2" + one + "3-4;}");
            for (String other : COMPARISONS) {
                check.dueMarked("fn f(){require 1" + one + "2^" + other + "3;}");
                check.dueMarked("fn f(){require true&&1" + one + "2^" + other + "true;}");
                check.dueMarked("fn f(){require 1" + one + "2&&3" + other + "4||5" + one + "6;}");
            }
            check.dueMarked("fn f(){require (1" + one + "2)==(3" + one + "4);}");
        }
    }

    /** "Factor: - or ! and a factor; a number; true; false; a variable's name; a function's name ( ... ); load [ E ]; ( E )." */
    private static void factors(Check check) {
        String[] ints = {"1", "a", "-1", "-a", "--a", "g()", "-g()", "load[a]", "-load[a]", "(a)", "-(a)", "(-a)", "-(-(a))"};
        String[] bools = {"true", "false", "b", "!true", "!!b", "(b)", "!(b)", "(!b)", "!(1==a)"};
        for (String one : ints) {
            check.dueMarked("fn g(){}fn f(a){return " + one + ";}");
            check.dueMarked("fn g(){}fn f(a){return 2*" + one + "-" + one + ";}");
        }
        for (String one : bools) {
            check.dueMarked("fn f(a){let b=true;require " + one + ";}");
            check.dueMarked("fn f(a){let b=true;require " + one + "&&" + one + "==" + one + ";}");
        }
        for (String none : new String[] {"*1", "/1", "%1", "+1", "<1", "==1", "&&1", "||1", ")", "]", "}", "{", "[1]", ",",
            ";", "=1", "fn", "let", "store[1]", "if", "else", "while", "return", "require"}) {
            check.dueMarked("fn f(){return ^" + none + ";}");
            check.dueMarked("fn f(){return 1+^" + none + ";}");
            check.dueMarked("fn f(){return -^" + none + ";}");
            check.dueMarked("fn f(){return load[^" + none + "];}");
            check.dueMarked("fn f(){return (^" + none + ");}");
        }
    }

    /** "a function's name ( E, commas between them, none or some )". */
    private static void noneOrSomeArguments(Check check) {
        GasContract x = Check.compiled("fn f(){return 7;}fn g(a){return a;}fn h(a,b){return a-b;}"
                + "fn i(a,b,c){return a*b-c;}fn j(){return f()+g(1)+h(9,4)+i(2,3,4);}");
        check.dueCall(x, 4, 99, Check.abc(0, 0, 0), 0, 7 + 1 + 5 + 2, 13 + 14 + 18 + 22 + 6 + 2);
        check.dueMarked("fn f(){return f(^,);}");
        check.dueMarked("fn f(a){return f(^,1);}");
        check.dueMarked("fn f(a){return f(1,^);}");
        check.dueMarked("fn f(a,b){return f(1,^,2);}");
        check.dueMarked("fn f(a,b){return f(1 ^2);}");
        check.dueMarked("fn f(a,b){return f(1^;2);}");
        check.dueMarked("fn f(a,b){return f(1,2^];}");
    }

    /** "(||, &&, + - and * / % go from left to right.)" */
    private static void fromLeftToRight(Check check) {
        check.dueRun("fn f(){return 10-3-2;}", 5, 9);
        check.dueRun("fn f(){return 10-3+2;}", 9, 9);
        check.dueRun("fn f(){return 100/10/5;}", 2, 9);
        check.dueRun("fn f(){return 100/10*5;}", 50, 9);
        check.dueRun("fn f(){return 7*5%4;}", 3, 9);
        check.dueRun("fn f(){return 7%5*4;}", 8, 9);
        check.dueRun("fn f(){return 47%10%4;}", 3, 9);
        check.dueRun("fn f(){return 2147483647+1-1;}", 2147483647, 9);
        String order = "fn p(n){store[0]=load[0]*10+n;return n;}";
        String[] chains = {"p(1)+p(2)-p(3)", "p(1)*p(2)%p(3)", "p(1)-p(2)*p(3)", "p(1)+(p(2)+p(3))"};
        for (String chain : chains) {
            GasContract x = Check.compiled(order + "fn f(){return " + chain + ";}");
            check.due(chain, x.call(1, 999, 0, 0, 0), 0);
            check.due("the order in " + chain, x.load(0), 123);
        }
        for (String chain : new String[] {"p(1)==1&&p(2)==2&&p(3)==3", "p(1)==0||p(2)==0||p(3)==3", "p(1)<p(2)&&p(3)==3"}) {
            GasContract x = Check.compiled(order + "fn f(){require " + chain + ";}");
            check.due(chain, x.call(1, 999, 0, 0, 0), 0);
            check.due("the order in " + chain, x.load(0), 123);
        }
        check.dueMarked("fn f(){return 1^+true+2;}");
        check.dueMarked("fn f(){return 1+2^+true;}");
        check.dueMarked("fn f(){require true^&&1&&2;}");
        check.dueMarked("fn f(){require true||false^||1;}");
    }

    /** "E: conjunctions, || between them. Conjunction: comparisons, && between them. ... Sum: products ... Product: factors". */
    private static void whatBindsMore(Check check) {
        String tell = "{return 1;}return 0;}";
        check.dueRun("fn f(){if true||false&&false" + tell, 1, 8);
        check.dueRun("fn f(){if (true||false)&&false" + tell, 0, 11);
        check.dueRun("fn f(){if false&&true||true" + tell, 1, 11);
        check.dueRun("fn f(){return 2+3*4;}", 14, 9);
        check.dueRun("fn f(){return 2*3+4;}", 10, 9);
        check.dueRun("fn f(){return (2+3)*4;}", 20, 9);
        check.dueRun("fn f(){return 9-4/2;}", 7, 9);
        check.dueRun("fn f(){return 9-7%4;}", 6, 9);
        check.dueRun("fn f(){if 1+2<2*2" + tell, 1, 15);
        check.dueRun("fn f(){if 2*2<=1+2" + tell, 0, 15);
        check.dueRun("fn f(a){return -a/2;}", -1073741824, 8, Integer.MIN_VALUE);
        check.dueRun("fn f(a){return -(a/2);}", 1073741824, 8, Integer.MIN_VALUE);
        check.dueRun("fn f(a){return -a-1;}", -6, 8, 5);
        check.dueMarked("fn f(){require ^!1==2;}");
        check.dueMarked("fn f(){require !(1==2);}");
        check.dueMarked("fn f(){require true^==1<2;}");
        check.dueMarked("fn f(){require true==(1<2);}");
    }

    /** "the text's end, if there should be a token": an accepted text that ends behind any token but its last. */
    private static void theTextsEnd(Check check) {
        String[] parts = {"fn", "f", "(", "a", ",", "f", ")", "{", "let", "c", "=", "(", "a", "-", "1", ")", "==", "f", "(",
            "1", ",", "f", "*", "2", ")", ";", "store", "[", "a", "]", "=", "load", "[", "-", "f", "]", ";", "if", "!", "c",
            "&&", "true", "{", "a", "=", "1", ";", "}", "else", "{", "}", "while", "c", "||", "false", "{", "}", "require",
            "true", ";", "return", "a", ";", "}", "fn", "g", "(", ")", "{", "}"};
        StringBuilder text = new StringBuilder();
        for (int i = 0; i < parts.length; i++) {
            boolean whole = i > 0 && parts[i].equals("fn");
            check.dueFault(text.toString(), whole ? GasContract.NONE : text.length());
            check.dueFault(text + " \n", whole ? GasContract.NONE : text.length() + 2);
            text.append(parts[i]).append(' ');
        }
        check.dueFault(text.toString(), GasContract.NONE);
    }
}
