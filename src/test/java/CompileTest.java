/** Promise 4: what is accepted, and where faults are. In a text here ^ stands ahead of its fault. */
public final class CompileTest {
    public static void main(String[] args) {
        Check check = new Check();
        accepted(check);
        tokens(check);
        numbers(check);
        textsAndFunctions(check);
        statements(check);
        expressions(check);
        brackets(check);
        names(check);
        limits(check);
        depths(check);
        calls(check);
        typesOfOperations(check);
        typesOfStatements(check);
        typesComeAheadOfTheNextToken(check);
        stateOfTheObject(check);
        check.finish();
    }

    private static void accepted(Check check) {
        check.dueMarked("fn f(){}");
        check.dueMarked(" \n fn\nf ( a , b\n, c ) { return a ; } \n ");
        check.dueMarked("fn f(a){if a<1{}else{}while a<=1{}require a!=1;store[a]=load[a];a=-a;}");
        check.dueMarked("fn f(a){let b=!(a==1)&&true||false;b=b==b;let c=a*2/3%4+5-6;return f(c);}");
        check.dueMarked("fn fn1(let2){let iff=let2;return iff;}");
        check.dueMarked("fn f(f){return f+f(f);}fn g(f,g){let h=f(g);return h+g(f,g);}");
        check.dueMarked("fn f(){return 1;return 2;}");
    }

    private static void tokens(Check check) {
        for (String sign : new String[] {"@", "&", "|", ">", "A", "Z", "_", "\t", "\r", "#", ".", ":", "\"", "'",
            "~", "?", "$", "\\", "`", "\u007f", "\u0001", "\u001f"}) {
            check.dueMarked("fn f(){}^" + sign);
            check.dueMarked("fn f(){return 1+^" + sign + "1;}");
            check.dueMarked("fn f(){ ^" + sign + "}");
        }
        check.dueFault("fn f(){}^", 8);
        check.dueMarked("fn f(){require true^& &true;}");
        check.dueMarked("fn f(){require true^|&true;}");
        check.dueMarked("fn f(){require true&&^&true;}");
        check.dueMarked("fn f(a){require a==1^= =true;}");
        check.dueMarked("fn f(a){require a==^=1;}");
        check.dueMarked("fn f(a){require a<=^=1;}");
        check.dueMarked("fn f(a){require a==1^! =true;}");
        check.dueMarked("fn f(a){require a< ^=1;}");
        check.dueMarked("fn f(a){a^==1;}");
        check.dueMarked("fn f(a){require !^!=true;}");
        check.dueMarked("^fnf(){}");
        check.dueMarked("fn f(){^returnn 1;}");
        check.dueMarked("fn f(){return 1^a;}");
        check.dueMarked("fn f(a){return a ^1;}");
        check.dueMarked("fn ^1f(){}");
    }

    private static void numbers(Check check) {
        check.dueMarked("fn f(){return 2147483647;}");
        check.dueMarked("fn f(){return ^2147483648;}");
        check.dueMarked("fn f(){return -^2147483648;}");
        check.dueMarked("fn f(){return 0;}");
        check.dueMarked("fn f(){return 00000000000000000000002147483647;}");
        check.dueMarked("fn f(){return ^00000000000000000000002147483648;}");
        check.dueMarked("fn f(){return ^4294967296;}");
        check.dueMarked("fn f(){return ^18446744073709551616;}");
        check.dueMarked("fn f(){return ^18446744073709551617" + "0".repeat(400) + ";}");
        check.dueMarked("^99999999999");
    }

    private static void textsAndFunctions(Check check) {
        check.dueFault("", 0);
        check.dueFault(" \n ", 3);
        check.dueMarked("^f");
        check.dueMarked("^let");
        check.dueFault("fn", 2);
        check.dueFault("fn  ", 4);
        check.dueFault("fn f", 4);
        check.dueFault("fn f(", 5);
        check.dueFault("fn f()", 6);
        check.dueFault("fn f(){", 7);
        check.dueFault("fn f(){  \n", 10);
        check.dueFault("fn f(){} f", 9);
        check.dueMarked("fn ^(){}");
        check.dueMarked("fn f^{}");
        check.dueMarked("fn f(^,a){}");
        check.dueMarked("fn f(a,^){}");
        check.dueMarked("fn f(a ^b){}");
        check.dueMarked("fn f(a,b,c^,d){}");
        check.dueMarked("fn f(^1){}");
        check.dueMarked("fn f()^;");
        check.dueMarked("fn f(){}^}");
        check.dueMarked("fn f(){}^{}");
        check.dueMarked("fn f(){^fn g(){}}");
        for (String word : new String[] {"fn", "let", "store", "load", "if", "else", "while", "return", "require",
            "true", "false"}) {
            check.dueMarked("fn ^" + word + "(){}");
            check.dueMarked("fn f(^" + word + "){}");
            check.dueMarked("fn f(){let ^" + word + "=1;}");
            check.dueMarked("fn " + word + "1(" + word + "2){let " + word + "s=1;}");
        }
    }

    private static void statements(Check check) {
        check.dueMarked("fn f(){^;}");
        check.dueMarked("fn f(){^{}}");
        check.dueMarked("fn f(){^1;}");
        check.dueMarked("fn f(){^else{}}");
        check.dueMarked("fn f(){^load[1];}");
        check.dueMarked("fn f(){^true;}");
        check.dueMarked("fn f(){let a^;}");
        check.dueMarked("fn f(){let a=^;}");
        check.dueMarked("fn f(){let a=1^}");
        check.dueMarked("fn f(){let ^1=1;}");
        check.dueMarked("fn f(a){a^;}");
        check.dueMarked("fn f(a){a=1^}");
        check.dueMarked("fn f(a){a^(1);}");
        check.dueMarked("fn f(){store^(1)=1;}");
        check.dueMarked("fn f(){store[^]=1;}");
        check.dueMarked("fn f(){store[1^=1;}");
        check.dueMarked("fn f(){store[1]^;}");
        check.dueMarked("fn f(){store[1]^==1;}");
        check.dueMarked("fn f(){store[1]=1^}");
        check.dueMarked("fn f(){if true^;}");
        check.dueMarked("fn f(){if ^{}}");
        check.dueMarked("fn f(){if true{}else ^if true{}}");
        check.dueMarked("fn f(){if true{}else{}^else{}}");
        check.dueMarked("fn f(){while true{}^else{}}");
        check.dueMarked("fn f(){while true ^return 1;}");
        check.dueMarked("fn f(){return^;}");
        check.dueMarked("fn f(){return 1^}");
        check.dueMarked("fn f(){require^;}");
        check.dueMarked("fn f(){require true^}");
        check.dueFault("fn f(){return 1", 15);
        check.dueFault("fn f(){if true", 14);
        check.dueFault("fn f(){if true{}", 16);
        check.dueFault("fn f(){if true{}else", 20);
    }

    private static void expressions(Check check) {
        check.dueMarked("fn f(){return ^*1;}");
        check.dueMarked("fn f(){return 1+^;}");
        check.dueMarked("fn f(){return 1+^+1;}");
        check.dueMarked("fn f(){return 1--1;}");
        check.dueMarked("fn f(){return (1^;}");
        check.dueMarked("fn f(){return (^);}");
        check.dueMarked("fn f(){return 1^);}");
        check.dueMarked("fn f(){return load^(1);}");
        check.dueMarked("fn f(){return load[1^);}");
        check.dueMarked("fn f(){return load[^];}");
        check.dueMarked("fn f(){return ^store[1];}");
        check.dueMarked("fn f(){return f(^,);}");
        check.dueMarked("fn f(a){return f(1,^);}");
        check.dueMarked("fn f(a){return f(1^;}");
        check.dueMarked("fn f(a){require a<1^<2;}");
        check.dueMarked("fn f(a){require a==1^==true;}");
        check.dueMarked("fn f(a){require (a==1)==true;}");
        check.dueMarked("fn f(a){require a!=1^<=2;}");
        check.dueMarked("fn f(a){return 1^(2);}");
        check.dueMarked("fn f(){require true^(1);}");
    }

    private static void brackets(Check check) {
        String[] all = {"(", ")", "{", "}", "[", "]"};
        String[][] around = {
            {"fn f", "(", "){}"}, {"fn f(a", ")", "{}"}, {"fn f()", "{", "}"}, {"fn f(){let a=1;", "}", ""},
            {"fn f(){store", "[", "1]=1;}"}, {"fn f(){store[1", "]", "=1;}"}, {"fn f(){return load", "[", "1];}"},
            {"fn f(){return load[1", "]", ";}"}, {"fn f(){return ", "(", "1);}"}, {"fn f(){return (1", ")", ";}"},
            {"fn f(a){return f(1", ")", ";}"}, {"fn f(){if true", "{", "}}"}, {"fn f(){while true{", "}", "}"}};
        for (String[] three : around) {
            for (String bracket : all) {
                boolean right = bracket.equals(three[1]);
                check.dueMarked(three[0] + (right ? "" : "^") + bracket + three[2]);
            }
        }
    }

    private static void names(Check check) {
        check.dueMarked("fn f(){}fn ^f(){}");
        check.dueMarked("fn f(){}fn g(){}fn ^f @");
        check.dueMarked("fn f(a,^a){}");
        check.dueMarked("fn f(a,b,^a @");
        check.dueMarked("fn f(a){let ^a=1;}");
        check.dueMarked("fn f(){let a=1;let ^a=@");
        check.dueMarked("fn f(){if true{let a=1;}let ^a=1;}");
        check.dueMarked("fn f(){if true{let a=1;}a=2;return a;}");
        check.dueMarked("fn f(){if true{let a=1;}else{a=2;}}");
        check.dueMarked("fn f(){while true{^a=2;}let a=1;}");
        check.dueMarked("fn f(){let a=^a;}");
        check.dueMarked("fn f(){let a=1+^a;}");
        check.dueMarked("fn f(){let a=1;}fn g(){return ^a;}");
        check.dueMarked("fn f(a){}fn g(a){let b=a;}fn h(b){let a=b;}");
        check.dueMarked("fn f(){^x=1;}");
        check.dueMarked("fn f(){^x @");
        check.dueMarked("fn f(){^f=1;}");
        check.dueMarked("fn f(){^f();}");
        check.dueMarked("fn f(){return ^x;}");
        check.dueMarked("fn f(){return ^x @");
        check.dueMarked("fn f(){return ^f;}");
        check.dueMarked("fn f(a){return ^a(1);}");
        check.dueMarked("fn f(){return ^g();}fn g(){}");
        check.dueMarked("fn f(){return ^g(@");
        check.dueMarked("fn ab(){return ^a();}");
        check.dueMarked("fn a(){return ^ab();}");
        check.dueMarked("fn f(ab){return ^a;}");
        check.dueMarked("fn f(a1,a2,a){let a3=a1+a2+a;return a3+^a4;}");
    }

    private static void limits(Check check) {
        String seven = "";
        for (int i = 0; i < 7; i++) {
            seven += "fn f" + i + "(){}";
        }
        check.dueMarked(seven + "fn f7(){}");
        check.dueMarked(seven + "fn f7(){}\n");
        check.dueMarked(seven + "fn f7(){}^fn f8(){}");
        check.dueMarked(seven + "fn f7(){} ^fn @");
        check.dueMarked(seven + "fn f7(){} ^f");
        check.dueMarked(seven + "fn f7(){return f0()+f7();}");
        String five = "let d=1;let e=2;let g=true;let h=3;let i=4;";
        check.dueMarked("fn f(a,b,c){" + five + "}");
        check.dueMarked("fn f(a,b,c){" + five + "let ^j=@");
        check.dueMarked("fn f(a,b,c){" + five + "if g{let ^j=1;}}");
        check.dueMarked("fn f(a,b){" + five + "let j=1;let ^k=1;}");
        check.dueMarked("fn f(){" + five + "let j=1;let k=1;let l=1;let ^m=1;}");
        check.dueMarked("fn f(a,b,c){" + five + "}fn g(a,b,c){" + five + "}");
        String long600 = "fn f(){" + " ".repeat(592) + "}";
        check.dueMarked(long600);
        check.dueMarked("fn " + "n".repeat(290) + "(){return " + "n".repeat(290) + "(" + ");}");
        check.dueMarked("fn f(){return " + "1+".repeat(291) + "1;}");
        check.dueMarked("fn f(){" + "return 1;".repeat(65) + "}");
        check.dueMarked("^" + "(".repeat(600));
        check.dueMarked("fn f(){^" + "(".repeat(593));
        check.dueMarked("fn f(){return " + "1+".repeat(293) + "^");
    }

    private static void depths(Check check) {
        check.dueMarked("fn f(){return " + "(".repeat(15) + "1" + ")".repeat(15) + ";}");
        check.dueMarked("fn f(){return " + "(".repeat(15) + "^(1");
        check.dueMarked("fn f(){return " + "-".repeat(15) + "1;}");
        check.dueMarked("fn f(){return " + "-".repeat(15) + "^-1;}");
        check.dueMarked("fn f(){require " + "!".repeat(15) + "true;}");
        check.dueMarked("fn f(){require " + "!".repeat(15) + "^!@");
        check.dueMarked("fn f(){return " + "load[".repeat(15) + "1" + "]".repeat(15) + ";}");
        check.dueMarked("fn f(){return " + "load[".repeat(15) + "load^[1");
        check.dueMarked("fn f(a){return " + "f(".repeat(15) + "1" + ")".repeat(15) + ";}");
        check.dueMarked("fn f(a){return " + "f(".repeat(15) + "f^(1");
        check.dueMarked("fn f(a){return " + "f(".repeat(15) + "^g(1");
        check.dueMarked("fn f(){" + "if true{".repeat(15) + "}".repeat(16));
        check.dueMarked("fn f(){" + "if true{".repeat(15) + "if true^{");
        check.dueMarked("fn f(){" + "while true{".repeat(15) + "}".repeat(15) + "if true{}else{}}");
        check.dueMarked("fn f(){" + "while true{".repeat(15) + "store^[1]=1;");
        check.dueMarked("fn f(){" + "while true{".repeat(15) + "return ^-1;");
        check.dueMarked("fn f(){" + "while true{".repeat(15) + "return 1-1;" + "}".repeat(16));
        String fifteen = "(".repeat(15) + "1" + ")".repeat(15);
        check.dueMarked("fn f(){let a=" + fifteen + ";a=" + fifteen + ";store[1]=" + fifteen + ";}");
        check.dueMarked("fn f(){if 1==" + fifteen + "{}while 1==" + fifteen + "{}require 1==" + fifteen + ";}");
        check.dueMarked("fn f(){" + "while true{".repeat(14) + "store[1]=-1;store[^-1]=1;");
        check.dueMarked("fn f(a){store[-(f(load[" + "(".repeat(10) + "1" + ")".repeat(10) + "]))]=1;}");
        check.dueMarked("fn f(a){store[-(f(load[" + "(".repeat(10) + "^(1");
        check.dueMarked("fn f(){return " + "-".repeat(15) + "1-" + "-".repeat(15) + "1*" + "-".repeat(15) + "1;}");
        check.dueMarked("fn f(){if true{}else{" + "if true{}else{".repeat(14) + "if true^{");
    }

    private static void calls(Check check) {
        check.dueMarked("fn f(){return ^f(1);}");
        check.dueMarked("fn f(a){return ^f();}");
        check.dueMarked("fn f(a){return ^f(1,2);}");
        check.dueMarked("fn f(a,b,c){return ^f(1,2);}");
        check.dueMarked("fn f(a,b,c){return ^f(1,2,3,4);}");
        check.dueMarked("fn f(a,b,c){return f(1,2,3);}");
        check.dueMarked("fn f(a){return f(1,2^;}");
        check.dueMarked("fn f(a){return f(1,2,3,^x);}");
        check.dueMarked("fn f(a){return f(1,2,^@");
        check.dueMarked("fn f(a){}fn g(){return f(1)+g();}");
        check.dueMarked("fn f(a){return ^f(true);}");
        check.dueMarked("fn f(a){return ^f(true @");
        check.dueMarked("fn f(a){return ^f(1,true @");
        check.dueMarked("fn f(a,b){return 1+^f(1,a<b);}");
        check.dueMarked("fn f(a,b){return f(1,^f(1));}");
        check.dueMarked("fn f(){require ^!f();}");
    }

    private static void typesOfOperations(Check check) {
        for (String operation : new String[] {"+", "-", "*", "/", "%"}) {
            check.dueMarked("fn f(){return 1" + operation + "2;}");
            check.dueMarked("fn f(){return true^" + operation + "1;}");
            check.dueMarked("fn f(){return 1^" + operation + "true;}");
            check.dueMarked("fn f(){return true^" + operation + "true;}");
            check.dueMarked("fn f(){^require 1" + operation + "2;}");
        }
        for (String operation : new String[] {"<", "<="}) {
            check.dueMarked("fn f(){require 1" + operation + "2;}");
            check.dueMarked("fn f(){require true^" + operation + "1;}");
            check.dueMarked("fn f(){require 1^" + operation + "true;}");
            check.dueMarked("fn f(){require true^" + operation + "true;}");
            check.dueMarked("fn f(){^return 1" + operation + "2;}");
        }
        for (String operation : new String[] {"==", "!="}) {
            check.dueMarked("fn f(){require 1" + operation + "2;}");
            check.dueMarked("fn f(){require true" + operation + "false;}");
            check.dueMarked("fn f(){require true^" + operation + "1;}");
            check.dueMarked("fn f(){require 1^" + operation + "true;}");
            check.dueMarked("fn f(){^return 1" + operation + "2;}");
        }
        for (String operation : new String[] {"&&", "||"}) {
            check.dueMarked("fn f(){require true" + operation + "false;}");
            check.dueMarked("fn f(){require true^" + operation + "1;}");
            check.dueMarked("fn f(){require 1^" + operation + "true;}");
            check.dueMarked("fn f(){require 1^" + operation + "1;}");
            check.dueMarked("fn f(){^return true" + operation + "true;}");
            check.dueMarked("fn f(){require 1^" + operation + "2" + operation + "@");
        }
        check.dueMarked("fn f(){return ^-true;}");
        check.dueMarked("fn f(){require ^!1;}");
        check.dueMarked("fn f(){require !^!1;}");
        check.dueMarked("fn f(){return -^-true;}");
        check.dueMarked("fn f(){^return !true;}");
        check.dueMarked("fn f(){require 1+true^*2;}");
        check.dueMarked("fn f(){return 1^+true-@");
        check.dueMarked("fn f(){require 1<2&&3<4||5==6&&true!=false;}");
        check.dueMarked("fn f(){require 1<2^&&3;}");
        check.dueMarked("fn f(){require true+(1^==true);}");
        check.dueMarked("fn f(){require true+^@");
        check.dueMarked("fn f(){let b=true;return b^+1;}");
    }

    private static void typesOfStatements(Check check) {
        check.dueMarked("fn f(){^if 1{}}");
        check.dueMarked("fn f(){^while 1{}}");
        check.dueMarked("fn f(){^require 1;}");
        check.dueMarked("fn f(){^return true;}");
        check.dueMarked("fn f(){^store[true]=1;}");
        check.dueMarked("fn f(){^store[1]=true;}");
        check.dueMarked("fn f(){return ^load[true];}");
        check.dueMarked("fn f(){^require load[1];}");
        check.dueMarked("fn f(a){^a=true;}");
        check.dueMarked("fn f(){let b=true;^b=1;}");
        check.dueMarked("fn f(){let b=true;b=false;let c=b;c=b==c;}");
        check.dueMarked("fn f(a){let b=a;b=1;^b=a==a;}");
        check.dueMarked("fn f(){let b=true;^return b;}");
        check.dueMarked("fn f(a){if true{let b=true;}if b{}^if a{}}");
        check.dueMarked("fn f(){let b=true;}fn g(b){return b;}");
    }

    private static void typesComeAheadOfTheNextToken(Check check) {
        for (String behind : new String[] {" @", " 1", "", " }", " 99999999999", ")", " fn"}) {
            check.dueMarked("fn f(){^return true" + behind);
            check.dueMarked("fn f(){^require 1" + behind);
            check.dueMarked("fn f(){^if 1" + behind);
            check.dueMarked("fn f(){^while 1" + behind);
            check.dueMarked("fn f(){^store[true" + behind);
            check.dueMarked("fn f(){^store[1]=true" + behind);
            check.dueMarked("fn f(){return ^load[true" + behind);
            check.dueMarked("fn f(a){return ^f(true" + behind);
            check.dueMarked("fn f(a){^a=true" + behind);
            check.dueMarked("fn f(a){a=1^+true" + behind);
            check.dueMarked("fn f(a){a=1+^-true" + behind);
            check.dueMarked("fn f(a){require true^==1" + behind);
        }
        check.dueMarked("fn f(){^return 1<2<3;}");
        check.dueMarked("fn f(){store[1^@");
        check.dueMarked("fn f(){^store[true]@");
    }

    /** "NONE if it is accepted (it is the contract then), otherwise its fault (the contract before stays)." */
    private static void stateOfTheObject(Check check) {
        GasContract x = Check.with("fn f(){return 1;}");
        check.due("compile()", x.compile(), GasContract.NONE);
        check.due("compile() again", x.compile(), GasContract.NONE);
        x.end(16);
        check.due("compile()", x.compile(), 16);
        check.dueCall(x, 0, 9, Check.abc(0, 0, 0), 0, 1, 3);
        check.due("the text stays", x.put('}'), 17);
        x.end(14);
        Check.write(x, "2;}fn g(){return 3;}");
        check.dueCall(x, 0, 9, Check.abc(0, 0, 0), 0, 1, 3);
        check.dueThrow("not compiled yet", IndexOutOfBoundsException.class, () -> x.call(1, 9, 0, 0, 0));
        check.due("compile()", x.compile(), GasContract.NONE);
        check.dueCall(x, 0, 9, Check.abc(0, 0, 0), 0, 2, 3);
        check.dueCall(x, 1, 9, Check.abc(0, 0, 0), 0, 3, 3);
        x.end(0);
        Check.write(x, "fn f(){return 4;}fn g(){return 5;}@");
        check.due("compile()", x.compile(), 34);
        check.dueCall(x, 0, 9, Check.abc(0, 0, 0), 0, 2, 3);
        check.dueCall(x, 1, 9, Check.abc(0, 0, 0), 0, 3, 3);
    }
}
