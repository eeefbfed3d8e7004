/** The document's sentences on texts, signs, tokens and words: each quoted ahead of its test. */
public final class TextBoundaryTest {
    private static final String[] WORDS = {"fn", "let", "store", "load", "if", "else", "while", "return", "require",
        "true", "false"};

    public static void main(String[] args) {
        Check check = new Check();
        atMost600Signs(check);
        signsUpTo127(check);
        zerosAreLeftOut(check);
        justItsFirstSigns(check);
        nothingBehindTheEndIsRead(check);
        longestTokens(check);
        everySignBehindAText(check);
        everySignBehindANumber(check);
        everySignInAName(check);
        numbersAtMost2147483647(check);
        blanksAndLineEnds(check);
        noBlanksInsideOfTokens(check);
        wordsAreNoNames(check);
        check.finish();
    }

    /** "A TEXT has at most 600 signs"; "UnsupportedOperationException if there would be more than 600." */
    private static void atMost600Signs(Check check) {
        for (int many = 1; many <= 4; many++) {
            GasContract x = Check.with("fn f(){" + " ".repeat(592 - many) + "}");
            check.due("signs", x.put(0), 600 - many);
            int room = blanks(many);
            for (int more = many + 1; more <= 4; more++) {
                int signs = blanks(more);
                check.dueThrow("put beyond 600", UnsupportedOperationException.class, () -> x.put(signs));
            }
            check.due("put up to 600", x.put(room), 600);
            check.dueThrow("put a 601st", UnsupportedOperationException.class, () -> x.put(' ' << 24));
            check.due("600 signs", x.compile(), GasContract.NONE);
            x.end(599);
            check.due("put a 600th again", x.put('@' << 16), 600);
            check.dueThrow("put a 601st again", UnsupportedOperationException.class, () -> x.put(' '));
        }
        check.dueMarked("fn f(){return 1" + "+1".repeat(291) + ";}");
        check.dueMarked("fn " + "f".repeat(592) + "(){}");
        check.dueMarked("fn f(){}" + " ".repeat(591) + "^;");
        check.dueMarked("^" + ";".repeat(600));
        check.dueMarked("fn f(a){" + "a=1;".repeat(148) + "^");
        check.dueMarked("fn f(a){" + "a=1;".repeat(147) + "a=^&;");
        check.dueMarked("fn f(a){a=1" + "+1".repeat(293) + ";}^;");
    }

    /** "signs, 0 .. 127"; "IllegalArgumentException if a byte is above 127". */
    private static void signsUpTo127(Check check) {
        for (int shift = 0; shift < 32; shift += 8) {
            GasContract x = new GasContract();
            for (int sign = 1; sign <= 255; sign++) {
                int signs = sign << shift;
                if (sign > 127) {
                    check.dueThrow("put " + sign, IllegalArgumentException.class, () -> x.put(signs));
                } else {
                    check.due("put " + sign, x.put(signs), 1);
                    x.end(0);
                }
            }
        }
        GasContract x = new GasContract();
        check.dueThrow("127 and 128", IllegalArgumentException.class, () -> x.put(0x7f7f807f));
        check.due("four of 127", x.put(0x7f7f7f7f), 4);
    }

    /** "Four more signs, the lowest byte first (those that are 0 are left out): how many there are." */
    private static void zerosAreLeftOut(Check check) {
        String want = "fn f(){}";
        for (int left = 0; left < 16; left++) {
            GasContract x = new GasContract();
            int at = 0;
            for (int turn = 0; turn < 8 && at < want.length(); turn++) {
                int signs = 0;
                for (int i = 0; i < 4; i++) {
                    if ((left >> i & 1) == 0 && at < want.length()) {
                        signs |= want.charAt(at++) << (8 * i);
                    }
                }
                check.due("how many there are", x.put(signs), at);
            }
            check.due("the text", x.compile(), left == 15 ? 0 : GasContract.NONE);
        }
    }

    /** "The text has just its first n signs. IllegalArgumentException if n is below 0 or above how many there are." */
    private static void justItsFirstSigns(Check check) {
        GasContract x = new GasContract();
        x.end(0);
        check.dueThrow("end(1) of an empty text", IllegalArgumentException.class, () -> x.end(1));
        check.dueThrow("end(-1) of an empty text", IllegalArgumentException.class, () -> x.end(-1));
        Check.write(x, "fn f(){}" + " ".repeat(592));
        check.dueThrow("end(601)", IllegalArgumentException.class, () -> x.end(601));
        x.end(600);
        check.due("all 600", x.put(0), 600);
        x.end(8);
        check.due("the first 8", x.compile(), GasContract.NONE);
        check.dueThrow("end(9)", IllegalArgumentException.class, () -> x.end(9));
        check.due("what was behind is gone", x.put('{' << 8), 9);
        check.due("the { is the ninth", x.compile(), 8);
        for (int n = 7; n >= 0; n--) {
            x.end(n);
            check.due("signs", x.put(0), n);
            boolean onlyAName = n == 1;
            check.due("the fault of " + n + " signs", x.compile(), onlyAName ? 0 : n);
        }
    }

    /** What was behind the end makes no token longer. */
    private static void nothingBehindTheEndIsRead(Check check) {
        String[] cut = {"fn f(a){a=~=1;}", "fn f(a){require a<~=1;}", "fn f(a){let b=true;b=b!~=b;}",
            "fn f(){require true&~&true;}", "fn f(){require true|~|true;}", "fn f(){let a1=1;a1=a~1;}",
            "fn f(){return 214748364~8;}", "fn f(){let a=1~+1;}", "fn f(){let~ter=1;}"};
        int[] due = {10, 18, 22, 19, 19, 19, 23, 14, 10};
        for (int i = 0; i < cut.length; i++) {
            int end = cut[i].indexOf('~');
            GasContract x = Check.with(cut[i].replace("~", ""));
            x.end(end);
            check.due("the fault of " + cut[i] + " up to ~", x.compile(), due[i]);
        }
        String whole = "fn f(a1,a){let b=a1==1&&a!=2||a1<=3;require !b;while b{store[a1]=load[a]-214748;}return f(a1,a);}fn g(){}";
        for (int n = 0; n <= whole.length(); n++) {
            GasContract x = Check.with(whole);
            x.end(n);
            check.due("the fault of " + n + " signs", x.compile(), Check.with(whole.substring(0, n)).compile());
            check.due("signs", x.put(0), n);
        }
    }

    /** "TOKENS, each the longest that there can be". */
    private static void longestTokens(Check check) {
        check.dueMarked("fn f(a){let b=a==1;b=b==b;}");
        check.dueMarked("fn f(a){let b^==1;}");
        check.dueMarked("fn f(a){a^==1;}");
        check.dueMarked("fn f(a){require a==^=1;}");
        check.dueMarked("fn f(a){require a!=^=1;}");
        check.dueMarked("fn f(a){require a<=^=1;}");
        check.dueMarked("fn f(a){require a<^<1;}");
        check.dueMarked("fn f(a){require a<^!=1;}");
        check.dueMarked("fn f(){require true&&^&&true;}");
        check.dueMarked("fn f(){require true||^||true;}");
        check.dueMarked("fn f(){require true&&^&true;}");
        check.dueMarked("fn f(){require true||^|true;}");
        check.dueMarked("fn f(){require true&&!!true||!true;}");
        check.dueMarked("fn f(lets){return lets+^let;}");
        check.dueMarked("fn f(iff){return iff;}");
        check.dueMarked("^fnf(){}");
        check.dueMarked("fn f(){^return1;}");
        check.dueMarked("fn f(){return 12^a1;}");
        check.dueMarked("fn f(a1){return a1;}");
        check.dueMarked("fn f(a1){return ^a11;}");
        check.dueMarked("fn f(a1){return ^a;}");
    }

    /** "a sign that begins no token" and "a token that can't come next (their place ...)", for each sign there is. */
    private static void everySignBehindAText(Check check) {
        for (char sign = 1; sign <= 127; sign++) {
            boolean blank = sign == ' ' || sign == '\n';
            check.dueFault("fn f(){}" + sign, blank ? GasContract.NONE : 8);
            check.dueFault("" + sign, blank ? 1 : 0);
            check.dueFault("fn f(){}  " + sign + "@", blank ? 11 : 10);
        }
    }

    private static void everySignBehindANumber(Check check) {
        for (char sign = 1; sign <= 127; sign++) {
            boolean fits = sign == ' ' || sign == '\n' || sign >= '0' && sign <= '9';
            boolean asksForMore = "+-*/%<;".indexOf(sign) >= 0;
            int fault = fits ? GasContract.NONE : asksForMore ? 16 : 15;
            check.dueFault("fn f(){return 1" + sign + ";}", fault);
        }
    }

    /** "NAMES, a small letter and then small letters and digits". */
    private static void everySignInAName(Check check) {
        for (char sign = 1; sign <= 127; sign++) {
            boolean letter = sign >= 'a' && sign <= 'z';
            boolean digit = sign >= '0' && sign <= '9';
            boolean blank = sign == ' ' || sign == '\n';
            check.dueFault("fn " + sign + "(){}", letter ? GasContract.NONE : blank ? 4 : 3);
            check.dueFault("fn q" + sign + "(){}", letter || digit || blank ? GasContract.NONE : sign == '(' ? 5 : 4);
            if (letter || digit) {
                check.dueMarked("fn q" + sign + "x" + sign + "(){return q" + sign + "x" + sign + "();}");
                check.dueMarked("fn q" + sign + "x(){return ^q" + sign + "();}");
            }
        }
    }

    /** "NUMBERS, digits, at most 2147483647"; "a number that is too great". */
    private static void numbersAtMost2147483647(Check check) {
        check.dueRun("fn f(){return 0;}", 0, 3);
        check.dueRun("fn f(){return 0001234567890;}", 1234567890, 3);
        check.dueRun("fn f(){return 2147483646;}", 2147483646, 3);
        check.dueRun("fn f(){return 2147483647;}", 2147483647, 3);
        check.dueMarked("fn f(){return ^2147483648;}");
        check.dueMarked("fn f(){return 0-^2147483648;}");
        check.dueMarked("fn f(){return ^2147483650;}");
        check.dueMarked("fn f(){return ^3000000000;}");
        check.dueMarked("fn f(){return ^4294967297;}");
        check.dueMarked("fn f(){return ^9223372036854775808;}");
        check.dueMarked("fn f(){return ^18446744073709551617;}");
        check.dueMarked("fn f(){return ^" + "9".repeat(580) + ";}");
        check.dueMarked("fn f(){return " + "0".repeat(570) + "2147483647;}");
        check.dueMarked("fn f(){return ^" + "0".repeat(570) + "2147483648;}");
        check.dueMarked("fn f(){return 1+2*(3-^2147483648");
    }

    /** "Blanks (32) and line ends (10) may stand between them." */
    private static void blanksAndLineEnds(Check check) {
        String[] parts = {"fn", "f", "(", "a", ",", "b", ")", "{", "let", "c", "=", "a", "==", "b", ";", "if", "c",
            "{", "store", "[", "a", "]", "=", "load", "[", "-", "b", "]", ";", "}", "else", "{", "require", "!", "c",
            "&&", "true", "||", "false", ";", "}", "while", "a", "<=", "b", "{", "a", "=", "a", "+", "f", "(", "1", ",",
            "2", "*", "3", ")", ";", "}", "return", "(", "a", ")", ";", "}"};
        for (String between : new String[] {" ", "\n", "  ", " \n", "\n\n"}) {
            String text = between + String.join(between, parts) + between;
            check.dueFault(text, GasContract.NONE);
            check.dueFault(text + "@", text.length());
        }
        for (String other : new String[] {"\t", "\r", "\u000b", "\f", "\u001f", "\u0001"}) {
            check.dueMarked("fn f(){^" + other + "}");
            check.dueMarked("^" + other + "fn f(){}");
        }
        check.dueMarked("fn f(a){let b=a==1;if!b{return-a;}else{return(a);}}");
    }

    private static void noBlanksInsideOfTokens(Check check) {
        for (String blank : new String[] {" ", "\n"}) {
            check.dueMarked("^f" + blank + "n f(){}");
            check.dueMarked("fn f" + blank + "^g(){}");
            check.dueMarked("fn f(){return 1" + blank + "^2;}");
            check.dueMarked("fn f(){let b=true;require b^=" + blank + "=b;}");
            check.dueMarked("fn f(a){require a<" + blank + "^=1;}");
            check.dueMarked("fn f(a){require a==1^!" + blank + "=true;}");
            check.dueMarked("fn f(){require true^&" + blank + "&true;}");
            check.dueMarked("fn f(){require true^|" + blank + "|true;}");
        }
    }

    /** "WORDS are names that mean something: ...; no others may be names of functions and variables." */
    private static void wordsAreNoNames(Check check) {
        for (String word : WORDS) {
            check.dueMarked("fn ^" + word + "(){}");
            check.dueMarked("fn f(^" + word + "){}");
            check.dueMarked("fn f(a,^" + word + "){}");
            check.dueMarked("fn f(){let ^" + word + "=1;}");
            for (String other : new String[] {word + "s", word + "0", "x" + word, word + word}) {
                check.dueMarked("fn " + other + "(a){let b=" + other + "(a);return b;}");
                check.dueMarked("fn f(" + other + "){" + other + "=1;return " + other + ";}");
                check.dueMarked("fn f(){let " + other + "=1;return " + other + ";}");
            }
            String shorter = word.substring(0, word.length() - 1);
            check.dueMarked("fn " + shorter + "(" + shorter + "){return " + shorter + "(" + shorter + ");}");
        }
    }

    private static int blanks(int many) {
        return 0x20202020 >>> (8 * (4 - many));
    }
}
