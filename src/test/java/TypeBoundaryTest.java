/** The document's sentences on types, variables and functions: each quoted ahead of its test. */
public final class TypeBoundaryTest {
    private static final String EIGHT = "let d=1;let e=2;let g=true;let h=3;let i=4;";

    public static void main(String[] args) {
        Check check = new Check();
        parametersAreInt(check);
        aVariableIsWhatItsLetIs(check);
        knownFromBehindItsLet(check);
        atMostEightVariables(check);
        variablesOfOtherNames(check);
        functionsGiveAnInt(check);
        itselfOrOneBefore(check);
        asManyInts(check);
        functionsOfOtherNames(check);
        operations(check);
        statements(check);
        check.finish();
    }

    /** "Parameters are int". */
    private static void parametersAreInt(Check check) {
        for (String parameter : new String[] {"a", "b", "c"}) {
            check.dueMarked("fn f(a,b,c){return " + parameter + ";}");
            check.dueMarked("fn f(a,b,c){" + parameter + "=1;}");
            check.dueMarked("fn f(a,b,c){^" + parameter + "=true;}");
            check.dueMarked("fn f(a,b,c){^require " + parameter + ";}");
        }
    }

    /** "a variable is what the E of its let is". */
    private static void aVariableIsWhatItsLetIs(Check check) {
        for (String one : new String[] {"1", "a", "-a", "a+a", "load[a]", "f(a)", "(a)"}) {
            check.dueMarked("fn f(a){let v=" + one + ";v=2;return v;}");
            check.dueMarked("fn f(a){let v=" + one + ";^v=true;}");
            check.dueMarked("fn f(a){let v=" + one + ";^require v;}");
        }
        for (String one : new String[] {"true", "false", "!true", "a==a", "a!=a", "a<a", "a<=a", "true&&false", "true||false",
            "(true)", "true==true"}) {
            check.dueMarked("fn f(a){let v=" + one + ";v=true;require v;}");
            check.dueMarked("fn f(a){let v=" + one + ";^v=1;}");
            check.dueMarked("fn f(a){let v=" + one + ";^return v;}");
            check.dueMarked("fn f(a){let v=" + one + ";let w=v;^return w;}");
        }
    }

    /** "it is known from behind that let on up to its function's end". */
    private static void knownFromBehindItsLet(Check check) {
        check.dueMarked("fn f(){let a=^a;}");
        check.dueMarked("fn f(){let a=1+(2*^a);}");
        check.dueMarked("fn f(){^a=1;let a=1;}");
        check.dueMarked("fn f(){return ^a;let a=1;}");
        check.dueMarked("fn f(){let a=1;let b=a;return a+b;}");
        check.dueMarked("fn f(){if true{let a=1;a=2;}else{a=3;}a=4;return a;}");
        check.dueMarked("fn f(){while true{while true{let a=1;}}return a;}");
        check.dueMarked("fn f(){if true{^a=1;}else{let a=1;}}");
        check.dueMarked("fn f(){let a=1;}fn g(){return ^a;}");
        check.dueMarked("fn f(a){}fn g(){return ^a;}");
        check.dueMarked("fn f(a){}fn g(){^a=1;}");
        check.dueMarked("fn f(){let a=true;}fn g(){let a=1;return a;}");
        check.dueRun("fn f(n){while n<3{if n==2{let a=7;}n=n+1;}return a;}", 7, 18 + 21 + 6 + 3, 1);
    }

    /** "(a function has at most eight variables with its parameters ...)"; "a ninth ... variable (its name)". */
    private static void atMostEightVariables(Check check) {
        check.dueRun("fn f(a,b,c){" + EIGHT + "return a+b+c+d+e+h+i;}", 16, 5 * 3 + 13 + 8, 1, 2, 3);
        check.dueMarked("fn f(a,b,c){" + EIGHT + "let ^j=1;}");
        check.dueMarked("fn f(a,b,c){" + EIGHT + "let ^j");
        check.dueMarked("fn f(a,b,c){" + EIGHT + "let ^j=x;}");
        check.dueMarked("fn f(a,b,c){" + EIGHT + "let ^j @");
        check.dueMarked("fn f(a,b,c){" + EIGHT + "let ^a=1;}");
        check.dueMarked("fn f(a,b,c){" + EIGHT + "while g{if g{let ^j=1;}}}");
        check.dueMarked("fn f(a,b,c){if true{" + EIGHT + "}let ^j=1;}");
        for (int parameters = 0; parameters <= 3; parameters++) {
            String list = "x,y,z".substring(0, parameters == 0 ? 0 : 2 * parameters - 1);
            StringBuilder lets = new StringBuilder();
            for (int i = parameters; i < 8; i++) {
                lets.append("let v").append(i).append("=1;");
            }
            check.dueMarked("fn f(" + list + "){" + lets + "}");
            check.dueMarked("fn f(" + list + "){" + lets + "let ^w=1;}");
            check.dueMarked("fn f(" + list + "){" + lets + "}fn g(" + list + "){" + lets + "}");
        }
    }

    /** "(... all of other names)"; "a name of a ... variable that is declared again (the name)". */
    private static void variablesOfOtherNames(Check check) {
        check.dueMarked("fn f(a,^a){}");
        check.dueMarked("fn f(a,b,^a){}");
        check.dueMarked("fn f(a,b,^b){}");
        check.dueMarked("fn f(a,^a @");
        check.dueMarked("fn f(a,b,c){let ^c=1;}");
        check.dueMarked("fn f(){let a=1;let ^a=true;}");
        check.dueMarked("fn f(){if true{let a=1;}else{let ^a=1;}}");
        check.dueMarked("fn f(){while true{let a=1;}let ^a");
        check.dueMarked("fn f(a,aa,aaa){let aaaa=a;let a1=aa;let a11=a1;}");
        check.dueMarked("fn f(a){}fn g(a){}fn h(){let a=1;}");
    }

    /** "Functions give an int". */
    private static void functionsGiveAnInt(Check check) {
        check.dueMarked("fn f(){}fn g(){return f()+1;}");
        check.dueMarked("fn f(){}fn g(){^require f();}");
        check.dueMarked("fn f(){}fn g(){let a=f();^a=true;}");
        check.dueMarked("fn f(){require ^!f();}");
        check.dueMarked("fn f(){^return true;}");
        check.dueMarked("fn f(){return 1;^return 1==1;}");
    }

    /** "a call is of the function itself or one before it". */
    private static void itselfOrOneBefore(Check check) {
        check.dueMarked("fn f(){return f();}");
        check.dueMarked("fn f(){}fn g(){}fn h(){return f()+g()+h();}");
        check.dueMarked("fn f(){return ^g();}fn g(){}");
        check.dueMarked("fn f(){}fn g(){return f()+^h();}fn h(){}");
        check.dueMarked("fn f(){return ^ff();}");
        check.dueMarked("fn ff(){return ^f();}");
        StringBuilder text = new StringBuilder("fn a(){return 1;}");
        for (char f = 'b'; f <= 'h'; f++) {
            text.append("fn ").append(f).append("(){return ").append((char) (f - 1)).append("()*2;}");
        }
        GasContract x = Check.compiled(text.toString());
        check.dueCall(x, 7, 200, Check.abc(0, 0, 0), 0, 128, 3 + 7 * 15);
    }

    /** "with as many ints as it has parameters"; "a call with too few or too many E's (the function's name, when its ) is seen)". */
    private static void asManyInts(Check check) {
        String[] parameters = {"", "a", "a,b", "a,b,c"};
        for (int has = 0; has <= 3; has++) {
            for (int gets = 0; gets <= 5; gets++) {
                String list = "1,2,3,4,5".substring(0, gets == 0 ? 0 : 2 * gets - 1);
                String mark = has == gets ? "" : "^";
                check.dueMarked("fn f(" + parameters[has] + "){return 1+" + mark + "f(" + list + ");}");
                if (gets > 0) {
                    check.dueMarked("fn f(" + parameters[has] + "){return 1+f(" + list + "^;}");
                    check.dueMarked("fn f(" + parameters[has] + "){return 1+f(" + list + ",^x);}");
                    check.dueFault("fn f(" + parameters[has] + "){return 1+f(" + list, 17 + 2 * gets
                            + parameters[has].length());
                }
            }
        }
        check.dueMarked("fn f(a){return ^f(true);}");
        check.dueMarked("fn f(a,b){return ^f(true,1);}");
        check.dueMarked("fn f(a,b){return ^f(1,true);}");
        check.dueMarked("fn f(a,b,c){return ^f(1,2,1<2);}");
        check.dueMarked("fn f(a){let b=true;return ^f(b);}");
        check.dueMarked("fn f(a){return f(^f());}");
        check.dueMarked("fn f(a){return f(^f(true));}");
    }

    /** "Functions have other names than one another (a variable may have a function's)". */
    private static void functionsOfOtherNames(Check check) {
        check.dueMarked("fn f(){}fn ^f(){}");
        check.dueMarked("fn f(){}fn ^f @");
        check.dueMarked("fn f(){}fn g(){}fn ^g(a){}");
        check.dueMarked("fn f(){}fn g(){}fn ff(){}fn f1(){}fn ^f(){}");
        check.dueRun("fn f(f){if f<1{return 5;}return f(f-1)+f;}", 5 + 1 + 2, 2 * (6 + 1 + 1 + 2 + 10 + 1 + 2 + 2) + 6 + 3, 2);
        check.dueMarked("fn f(){}fn g(f){let g=f;return f()+g(f)*f-g;}");
        check.dueMarked("fn g(f){return f;}fn f(g){return g+g(g);}");
        check.dueMarked("fn f(g){return ^g(1);}fn g(a){}");
        check.dueMarked("fn f(){return ^f;}");
        check.dueMarked("fn f(){^f=1;}");
    }

    /** "- + * / % are of ints and give one, < <= of ints, == and != of two alike, ! && || of bools, all these give a bool." */
    private static void operations(Check check) {
        operation(check, "- + * / %", true, false, true);
        operation(check, "< <=", true, false, false);
        operation(check, "== !=", true, true, false);
        operation(check, "&& ||", false, true, false);
        check.dueMarked("fn f(){return -1;}");
        check.dueMarked("fn f(){return ^-true;}");
        check.dueMarked("fn f(){^require -1;}");
        check.dueMarked("fn f(){require !true;}");
        check.dueMarked("fn f(){require ^!1;}");
        check.dueMarked("fn f(){^return !true;}");
    }

    private static void operation(Check check, String signs, boolean ofInts, boolean ofBools, boolean givesInt) {
        for (String sign : signs.split(" ")) {
            check.dueMarked("fn f(){let v=1" + (ofInts ? "" : "^") + sign + "2;}");
            check.dueMarked("fn f(){let v=true" + (ofBools ? "" : "^") + sign + "false;}");
            check.dueMarked("fn f(){let v=1^" + sign + "true;}");
            check.dueMarked("fn f(){let v=true^" + sign + "1;}");
            String good = (ofInts ? "1" : "true") + sign + (ofInts ? "2" : "false");
            check.dueMarked("fn f(){" + (givesInt ? "" : "^") + "return " + good + ";}");
            check.dueMarked("fn f(){" + (givesInt ? "^" : "") + "require " + good + ";}");
        }
    }

    /** "load and store have ints; if, while and require a bool; return an int; name = E a variable and its type." */
    private static void statements(Check check) {
        check.dueMarked("fn f(){return load[1];}");
        check.dueMarked("fn f(){return ^load[true];}");
        check.dueMarked("fn f(){^require load[1];}");
        check.dueMarked("fn f(){store[1]=2;}");
        check.dueMarked("fn f(){^store[true]=2;}");
        check.dueMarked("fn f(){^store[1]=true;}");
        check.dueMarked("fn f(){^store[true]=false;}");
        for (String word : new String[] {"if", "while"}) {
            check.dueMarked("fn f(){" + word + " true{}}");
            check.dueMarked("fn f(){^" + word + " 1{}}");
            check.dueMarked("fn f(){^" + word + " 1{x=1;}}");
        }
        check.dueMarked("fn f(){require true;}");
        check.dueMarked("fn f(){^require 0;}");
        check.dueMarked("fn f(){return 0;}");
        check.dueMarked("fn f(){^return false;}");
        check.dueMarked("fn f(a){a=1;}");
        check.dueMarked("fn f(a){^a=true;}");
        check.dueMarked("fn f(){let a=true;a=false;}");
        check.dueMarked("fn f(){let a=true;^a=0;}");
    }
}
