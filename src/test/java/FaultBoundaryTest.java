import java.util.Random;

/** The document's sentences on depth, on faults and on their places: each quoted ahead of its test. */
public final class FaultBoundaryTest {
    /** What may stand in one another in an int: what opens it (^ ahead of the sign that counts), and what closes it. */
    private static final String[][] INTS = {{"^(", ")"}, {"load^[", "]"}, {"f^(", ")"}, {"^-", ""}};
    private static final String[][] BOOLS = {{"^(", ")"}, {"^!", ""}};
    private static final String[][] BLOCKS = {{"if true^{", "}"}, {"while true^{", "}"}, {"if true^{}else{", "}"}};

    public static void main(String[] args) {
        Check check = new Check();
        sixteenOfAKind(check);
        sixteenTogether(check);
        besideOneAnother(check);
        badSignsAndNumbers(check);
        declaredAgain(check);
        notKnown(check);
        aNinth(check);
        tooDeepIsFoundAtItsSign(check);
        callsAreCountedAtTheirEnd(check);
        typesWhenAllWasGoneOver(check);
        typesAheadOfTheTokenBehind(check);
        firstItsKeyThenItsValue(check);
        check.finish();
    }

    /** "Blocks, parentheses, brackets, calls' parentheses, and - or ! of factors may be 16 deep in one another, together." */
    private static void sixteenOfAKind(Check check) {
        for (String[] kind : INTS) {
            check.dueMarked(nested("fn f(a){return ", 15, kind, "1", ";}"));
            check.dueMarked(nested("fn f(a){return ", 16, kind, "1", ";}"));
            check.dueMarked(nested("fn f(a){store[", 14, kind, "1", "]=1;}"));
            check.dueMarked(nested("fn f(a){store[1]=", 15, kind, "1", ";}"));
            check.dueMarked(nested("fn f(a){if true{let b=", 14, kind, "1", ";}}"));
        }
        for (String[] kind : BOOLS) {
            check.dueMarked(nested("fn f(){require ", 15, kind, "true", ";}"));
            check.dueMarked(nested("fn f(){require ", 16, kind, "true", ";}"));
        }
        for (String[] kind : BLOCKS) {
            check.dueMarked(nested("fn f(){", 15, kind, "let a=1;", "}"));
            check.dueMarked(nested("fn f(){", 16, kind, "let a=1;", "}"));
        }
    }

    /** The same, with any of them in any of them, at 16 and at 17. */
    private static void sixteenTogether(Check check) {
        Random random = new Random(16);
        for (int turn = 0; turn < 400; turn++) {
            int deep = 16 + turn % 2;
            int blocks = 1 + random.nextInt(deep - 1);
            Nest nest = new Nest();
            nest.wrap("fn f(a)^{", "}");
            for (int i = 1; i < blocks; i++) {
                nest.wrap(BLOCKS[random.nextInt(BLOCKS.length)]);
            }
            boolean bool = random.nextInt(3) == 0;
            boolean key = !bool && random.nextInt(3) == 0;
            if (key) {
                nest.wrap("store^[", "]=1;");
            } else {
                nest.around(bool ? "require " : "return ", ";");
            }
            while (nest.depth < deep) {
                String[][] kinds = bool ? BOOLS : INTS;
                String[] kind = kinds[random.nextInt(kinds.length)];
                nest.wrap(kind);
                if (bool && kind[0].equals("^(") && random.nextInt(3) == 0) {
                    bool = false;
                    nest.around("1==", "");
                }
            }
            check.dueMarked(nest.text(bool ? "true" : "1"));
        }
    }

    /** Things that are not in one another do not add up. */
    private static void besideOneAnother(Check check) {
        check.dueMarked("fn f(){return " + "(-1)+".repeat(40) + "-(-(1));}");
        check.dueMarked("fn f(){" + "if true{}else{}".repeat(30) + "}");
        check.dueMarked("fn f(){return " + "1-".repeat(200) + "1;}");
        check.dueMarked("fn f(){require 1!=2" + "&&!(1!=2)".repeat(50) + ";}");
        String full = "-".repeat(15) + "1";
        check.dueMarked("fn f(a,b,c){return " + full + "*" + full + "-" + full + ";}fn g(){return " + full + ";}");
        check.dueMarked("fn f(){if 1==" + full + "{return " + "-".repeat(14) + "1;}else{return " + "-".repeat(14) + "^-1;}}");
        check.dueMarked("fn f(){while 1==" + full + "{}return " + full + ";}");
        check.dueMarked("fn f(a,b){return " + "(".repeat(14) + "f(1,2)+f(^-3,4)");
    }

    /** "a sign that begins no token, a number that is too great, or a token that can't come next (their place ...)". */
    private static void badSignsAndNumbers(Check check) {
        String[] texts = {"", "fn ", "fn f", "fn f(", "fn f(a", "fn f(a,", "fn f()", "fn f(){", "fn f(){}", "fn f(){let ",
            "fn f(){let a", "fn f(){let a=", "fn f(){let a=1", "fn f(a){a", "fn f(a){a=", "fn f(a){a=1", "fn f(){store",
            "fn f(){store[", "fn f(){store[1", "fn f(){store[1]", "fn f(){store[1]=", "fn f(){store[1]=1", "fn f(){if ",
            "fn f(){if true", "fn f(){if true{", "fn f(){if true{}", "fn f(){if true{}else", "fn f(){while ",
            "fn f(){while true", "fn f(){return ", "fn f(){return 1", "fn f(){return 1;", "fn f(){require ",
            "fn f(){require true", "fn f(){return -", "fn f(){require !", "fn f(){return load", "fn f(){return load[",
            "fn f(){return load[1", "fn f(){return f(", "fn f(a){return f(1", "fn f(a){return f(1,", "fn f(){return (",
            "fn f(){return (1", "fn f(a){return a", "fn f(){return 1+", "fn f(){require true&&", "fn f(){require true||",
            "fn f(){require 1<", "fn f(){require 1=="};
        for (String text : texts) {
            for (String bad : new String[] {"@", "&", "|", ">", "A", "\t", "2147483648", "99999999999999999999", "else",
                ">=", "&|", "|&"}) {
                boolean canComeNext = bad.equals("else") && text.equals("fn f(){if true{}");
                if (!canComeNext) {
                    check.dueMarked(text + " ^" + bad);
                    check.dueMarked(text + "\n\n ^" + bad + " @ 2147483648");
                }
            }
            check.dueFault(text + "  ", text.equals("fn f(){}") ? GasContract.NONE : text.length() + 2);
        }
        check.dueMarked("fn f(){return load[1]^]];}");
        check.dueMarked("fn f(){store[1]^];}");
    }

    /** "a name of a function or variable that is declared again (the name)". */
    private static void declaredAgain(Check check) {
        check.dueMarked("fn f(){}fn ^f");
        check.dueMarked("fn f(){}fn ^f(a,a){return x;}");
        check.dueMarked("fn f(a,^a");
        check.dueMarked("fn f(a,^a,@");
        check.dueMarked("fn f(a){let ^a=x;}");
        check.dueMarked("fn f(a){let ^a @");
    }

    /** "is not known (the name; a call of something that isn't a known function: its name, when the parenthesis behind it is seen)". */
    private static void notKnown(Check check) {
        for (String behind : new String[] {";", "", " @", " 1", "+1;", " 2147483648", "]", ","}) {
            check.dueMarked("fn f(){return ^x" + behind);
            check.dueMarked("fn f(){return ^f" + behind);
            check.dueMarked("fn f(){return -^x" + behind);
        }
        for (String behind : new String[] {"=1;", "=", "", " @", ";"}) {
            check.dueMarked("fn f(){^x" + behind);
            check.dueMarked("fn f(){^f" + behind);
        }
        for (String behind : new String[] {"(1);", "(", "(@", " (1,2,3)", "(true)", "(x)", "(-"}) {
            check.dueMarked("fn f(a){return 1+^g" + behind);
            check.dueMarked("fn f(a){return 1+^a" + behind);
            check.dueMarked("fn f(a){let b=1;return 1+^b" + behind);
        }
        check.dueMarked("fn f(a){return a^[1];}");
    }

    /** "a ninth function (its fn), variable (its name)". */
    private static void aNinth(Check check) {
        String functions = "fn a(){}fn b(){}fn c(){}fn d(){}fn e(){}fn f(){}fn g(){}fn h(){}";
        check.dueMarked(functions);
        for (String behind : new String[] {" i(){}", " a(){}", "", " @", " 1", " let"}) {
            check.dueMarked(functions + "^fn" + behind);
        }
        String lets = "let a=1;let b=1;let c=1;let d=1;let e=1;let f=1;let g=1;let h=1;";
        check.dueMarked("fn f(){" + lets + "}");
        for (String behind : new String[] {"=1;}", "", "=x;", " @", ";"}) {
            check.dueMarked("fn f(){" + lets + "let ^i" + behind);
        }
        check.dueMarked("fn f(){" + lets + "let ^1=1;}");
    }

    /** "something too deep (its { ( [ - or !)". */
    private static void tooDeepIsFoundAtItsSign(Check check) {
        String blocks = "fn f(a){" + "if true{".repeat(15);
        for (String behind : new String[] {"", " @", "x", "true", "1", ")", "2147483648"}) {
            check.dueMarked(blocks + "return ^(" + behind);
            check.dueMarked(blocks + "return ^-" + behind);
            check.dueMarked(blocks + "require ^!" + behind);
            check.dueMarked(blocks + "return load^[" + behind);
            check.dueMarked(blocks + "return f^(" + behind);
            check.dueMarked(blocks + "store^[" + behind);
            check.dueMarked(blocks + "if true^{" + behind);
            check.dueMarked(blocks + "while true^{" + behind);
        }
        check.dueMarked(blocks + "^if 1{");
        check.dueMarked(blocks + "return 1-1;a=1;require true;" + "}".repeat(16));
    }

    /** "a call with too few or too many E's (the function's name, when its ) is seen)". */
    private static void callsAreCountedAtTheirEnd(Check check) {
        check.dueMarked("fn f(a){return ^f()");
        check.dueMarked("fn f(a){return ^f() @");
        check.dueMarked("fn f(a){return ^f(1,2) @");
        check.dueMarked("fn f(a){return f(1,2 ^@");
        check.dueMarked("fn f(a){return f(1,2,^");
        check.dueMarked("fn f(a){return f(1,2,^)");
        check.dueMarked("fn f(a){return f(1,^x)");
        check.dueMarked("fn f(a){return f(1,2,3,1^+true)");
        check.dueMarked("fn f(a,b){return f(^f(1),2,3)");
        check.dueMarked("fn f(a){return true+^f(1,2)");
        check.dueMarked("fn f(a){return ^f(1,2)+true");
    }

    /** "types, as soon as all that they hang on was gone over ...: of an operation its sign, of a call's E the function's name ...". */
    private static void typesWhenAllWasGoneOver(Check check) {
        check.dueMarked("fn f(){return true+^x;}");
        check.dueMarked("fn f(){return true^+1+x;}");
        check.dueMarked("fn f(){return true+1^*true;}");
        check.dueMarked("fn f(){return 1*2^+true@");
        check.dueMarked("fn f(){return 1^*true+x;}");
        check.dueMarked("fn f(){return ^-true+x;}");
        check.dueMarked("fn f(){require ^!1&&x;}");
        check.dueMarked("fn f(){require 1^==true&&x;}");
        check.dueMarked("fn f(){require 1&&^x;}");
        check.dueMarked("fn f(){require 1^&&2<3||x;}");
        check.dueMarked("fn f(){require 1||2^&&3;}");
        check.dueMarked("fn f(){require 1||^x;}");
        check.dueMarked("fn f(a,b){return ^f(true,x);}");
        check.dueMarked("fn f(a,b){return f(^x,true);}");
        check.dueMarked("fn f(a,b){return ^f(1==1,f(1));}");
        check.dueMarked("fn f(a){return f(^f(true)+true);}");
        check.dueMarked("fn f(a){return load[^load[true]==1];}");
        check.dueMarked("fn f(a){return ^load[load[1]==1];}");
        check.dueMarked("fn f(a){^a=a==1;}");
        check.dueMarked("fn f(a){a=a^+(a==1);}");
        check.dueMarked("fn f(a){^return(a==1);}");
        check.dueMarked("fn f(a){^if a{return x;}}");
        check.dueMarked("fn f(a){^while a{return x;}}");
    }

    /** "... (ahead of the token behind it)". */
    private static void typesAheadOfTheTokenBehind(Check check) {
        for (String behind : new String[] {"", " @", " 1", ")", "}", "]", ";", " fn", " 2147483648", ",", "=", "{", "&"}) {
            check.dueMarked("fn f(){^return true" + behind);
            check.dueMarked("fn f(){^require 1" + behind);
            check.dueMarked("fn f(){^if 1" + behind);
            check.dueMarked("fn f(){^while 1" + behind);
            check.dueMarked("fn f(a){^a=true" + behind);
            check.dueMarked("fn f(a){return 1^+true" + behind);
            check.dueMarked("fn f(a){return ^-true" + behind);
            check.dueMarked("fn f(a){require ^!1" + behind);
            check.dueMarked("fn f(a){require 1^==true" + behind);
            check.dueMarked("fn f(a){require true^&&1" + behind);
            check.dueMarked("fn f(a){return ^load[true" + behind);
            check.dueMarked("fn f(a){return ^f(true" + behind);
            check.dueMarked("fn f(a){^store[true" + behind);
            check.dueMarked("fn f(a){^store[1]=true" + behind);
        }
    }

    /** "of load, store (first its key, then its value), if, while, require, return their word, of name = E the name." */
    private static void firstItsKeyThenItsValue(Check check) {
        check.dueMarked("fn f(){^store[true]=x;}");
        check.dueMarked("fn f(){^store[true];}");
        check.dueMarked("fn f(){store[^x]=true;}");
        check.dueMarked("fn f(){store[1]=^x;}");
        check.dueMarked("fn f(){store[1]=1^+true;}");
        check.dueMarked("fn f(){^store[1]=1==1 @");
        check.dueMarked("fn f(){store[1^;}");
        check.dueMarked("fn f(){store[1]^;}");
    }

    private static String nested(String ahead, int many, String[] kind, String inside, String behind) {
        Nest nest = new Nest();
        nest.around(ahead, behind);
        nest.depth = depthOf(ahead);
        for (int i = 0; i < many; i++) {
            nest.wrap(kind);
        }
        return nest.text(inside);
    }

    private static int depthOf(String ahead) {
        int depth = 0;
        for (char sign : ahead.substring(ahead.indexOf('{')).toCharArray()) {
            depth += sign == '{' || sign == '[' ? 1 : sign == ']' ? -1 : 0;
        }
        return depth;
    }

    /** A text that grows inward; only the mark at the 17th depth stays. */
    private static final class Nest {
        private final StringBuilder ahead = new StringBuilder();
        private String behind = "";
        private int depth = 0;

        void around(String before, String after) {
            ahead.append(before);
            behind = after + behind;
        }

        void wrap(String... kind) {
            depth++;
            around(depth == 17 ? kind[0] : kind[0].replace("^", ""), kind[1]);
        }

        String text(String inside) {
            return ahead + inside + behind;
        }
    }
}
