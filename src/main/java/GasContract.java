import java.util.Arrays;

/**
 * A small language for contracts with a store. A text is cut into tokens, the tokens become
 * instructions (with their types checked on the way), and a transaction runs the instructions
 * with gas.
 */
public final class GasContract {
    public static final int NONE = -1;

    private static final int MOST_SIGNS = 600;
    private static final int MOST_FUNCTIONS = 8;
    private static final int MOST_PARAMETERS = 3;
    private static final int MOST_VARIABLES = 8;
    private static final int MOST_DEPTH = 16;
    private static final int MOST_STORED = 32;
    private static final int MOST_CALLS = 12;
    private static final int MOST_GAS = 50000;
    private static final int GREATEST_NUMBER = 2147483647;

    private static final int DONE = 0;
    private static final int FAILED = 1;
    private static final int REFUSED = 2;
    private static final int UNDER_WAY = 3;

    private final int[] text = new int[MOST_SIGNS];
    private int length = 0;
    private final Compiler compiler = new Compiler();
    private final Machine machine = new Machine();
    private boolean compiled = false;
    private int given = 0;
    private int charged = 0;
    private int transactions = 0;

    public GasContract() {
    }

    public int put(int signs) throws IllegalArgumentException, UnsupportedOperationException {
        int more = 0;
        for (int shift = 0; shift < 32; shift += 8) {
            int sign = (signs >> shift) & 255;
            if (sign > 127) {
                throw new IllegalArgumentException("a byte is above 127");
            }
            if (sign != 0) {
                more++;
            }
        }
        if (length + more > MOST_SIGNS) {
            throw new UnsupportedOperationException("more than 600 signs");
        }
        for (int shift = 0; shift < 32; shift += 8) {
            addSign((signs >> shift) & 255);
        }
        return length;
    }

    public void end(int n) throws IllegalArgumentException {
        if (n < 0 || n > length) {
            throw new IllegalArgumentException("the text has not so many signs");
        }
        length = n;
    }

    public int compile() {
        int fault = compiler.translate(text, length);
        if (fault == NONE) {
            machine.contract.become(compiler.draft);
            compiled = true;
        }
        return fault;
    }

    public int functions(int f) throws IllegalStateException, IndexOutOfBoundsException {
        if (!compiled) {
            throw new IllegalStateException("there is no contract");
        }
        if (f == NONE) {
            return machine.contract.functionCount;
        }
        if (!machine.contract.hasFunction(f)) {
            throw new IndexOutOfBoundsException("there is no such function");
        }
        return machine.contract.parametersOf(f);
    }

    public int call(int f, int gas, int a, int b, int c)
            throws IllegalStateException, IndexOutOfBoundsException, IllegalArgumentException {
        if (!compiled) {
            throw new IllegalStateException("there is no contract");
        }
        if (!machine.contract.hasFunction(f)) {
            throw new IndexOutOfBoundsException("there is no such function");
        }
        if (gas < 0 || gas > MOST_GAS) {
            throw new IllegalArgumentException("gas is not 0 .. 50000");
        }
        machine.store.keep();
        int outcome = machine.run(f, gas, a, b, c);
        boolean done = outcome == DONE;
        if (!done) {
            machine.store.restore();
        }
        given = done ? machine.given : 0;
        charged = done ? machine.cost : gas;
        transactions++;
        return outcome;
    }

    public int result(int what) throws IllegalArgumentException {
        switch (what) {
            case 0:
                return given;
            case 1:
                return charged;
            case 2:
                return transactions;
            default:
                throw new IllegalArgumentException("what is not 0, 1 or 2");
        }
    }

    public int load(int key) {
        return machine.store.read(key);
    }

    public int stored() {
        return machine.store.size;
    }

    private void addSign(int sign) {
        if (sign != 0 && length < MOST_SIGNS) {
            text[length] = sign;
            length++;
        }
    }

    /**
     * What a token is, and what an instruction does: an instruction bears the mark of the token
     * that asks for it, where there is one.
     */
    private static final class Mark {
        static final int END = 0;
        static final int BAD = 1;
        static final int NAME = 2;
        static final int NUMBER = 3;
        static final int ROUND_OPEN = 4;
        static final int ROUND_CLOSE = 5;
        static final int CURLY_OPEN = 6;
        static final int CURLY_CLOSE = 7;
        static final int SQUARE_OPEN = 8;
        static final int SQUARE_CLOSE = 9;
        static final int COMMA = 10;
        static final int SEMICOLON = 11;
        static final int BECOMES = 12;
        static final int EQUAL = 13;
        static final int UNEQUAL = 14;
        static final int LESS = 15;
        static final int AT_MOST = 16;
        static final int PLUS = 17;
        static final int MINUS = 18;
        static final int TIMES = 19;
        static final int DIVIDE = 20;
        static final int REMAINDER = 21;
        static final int NOT = 22;
        static final int AND = 23;
        static final int OR = 24;
        static final int FN = 25;
        static final int LET = 26;
        static final int STORE = 27;
        static final int LOAD = 28;
        static final int IF = 29;
        static final int ELSE = 30;
        static final int WHILE = 31;
        static final int RETURN = 32;
        static final int REQUIRE = 33;
        static final int TRUE = 34;
        static final int FALSE = 35;

        // Instructions alone.
        static final int VARIABLE = 36;
        static final int NEGATE = 37;
        static final int CALL = 38;
        static final int SET = 39;
        static final int TEST = 40;
        static final int JUMP = 41;
        static final int FINISH = 42;
    }

    /**
     * A text cut into tokens. The last one is END, or BAD where no token can be made: a fault
     * there is only told when the token would be used, since types are checked ahead of it.
     */
    private static final class Tokens {
        private final int[] marks = new int[MOST_SIGNS + 1];
        private final int[] places = new int[MOST_SIGNS + 1];
        private final int[] stops = new int[MOST_SIGNS + 1];
        private final int[] numbers = new int[MOST_SIGNS + 1];
        private int size = 0;
        private int[] signs = new int[0];
        private int length = 0;
        private int stop = 0;
        private int number = 0;

        void cut(int[] text, int textLength) {
            signs = text;
            length = textLength;
            size = 0;
            stop = 0;
            boolean more = true;
            for (int i = 0; i <= MOST_SIGNS && more; i++) {
                int place = behindBlanks(stop);
                int mark = cutOne(place);
                marks[i] = mark;
                places[i] = place;
                stops[i] = stop;
                numbers[i] = number;
                size = i + 1;
                more = mark != Mark.END && mark != Mark.BAD;
            }
        }

        int markOf(int token) {
            return token >= 0 && token < size ? marks[token] : Mark.END;
        }

        int placeOf(int token) {
            return token >= 0 && token < size ? places[token] : length;
        }

        int numberOf(int token) {
            return token >= 0 && token < size ? numbers[token] : 0;
        }

        boolean sameName(int one, int other) {
            if (one < 0 || one >= size || other < 0 || other >= size) {
                return false;
            }
            int from = places[one];
            int against = places[other];
            int many = stops[one] - from;
            if (stops[other] - against != many) {
                return false;
            }
            // Reads the row itself: through signAt, a name in an E would lie one call too deep.
            for (int i = 0; i < many && Math.max(from, against) + i < signs.length; i++) {
                if (signs[from + i] != signs[against + i]) {
                    return false;
                }
            }
            return true;
        }

        /** The mark of the token that begins at a place; it leaves its stop and its number. */
        private int cutOne(int place) {
            int first = signAt(place);
            number = 0;
            stop = place;
            if (place >= length) {
                return Mark.END;
            }
            if (isLetter(first)) {
                stop = behindName(place);
                return wordOrName(place, stop);
            }
            if (isDigit(first)) {
                return cutNumber(place);
            }
            int mark = twoSigns(first, signAt(place + 1));
            if (mark != Mark.BAD) {
                stop = place + 2;
                return mark;
            }
            stop = place + 1;
            return oneSign(first);
        }

        private int behindName(int from) {
            int at = from;
            while (at < length && (isLetter(signAt(at)) || isDigit(signAt(at)))) {
                at++;
            }
            return at;
        }

        private int cutNumber(int place) {
            long value = 0;
            int to = place;
            while (to < length && isDigit(signAt(to))) {
                // Held at the first value that is too great, so that no digits make it wrap.
                value = Math.min(value * 10 + (signAt(to) - '0'), GREATEST_NUMBER + 1L);
                to++;
            }
            stop = to;
            if (value > GREATEST_NUMBER) {
                return Mark.BAD;
            }
            number = (int) value;
            return Mark.NUMBER;
        }

        private int behindBlanks(int from) {
            int at = from;
            while (at < length && (signAt(at) == ' ' || signAt(at) == '\n')) {
                at++;
            }
            return at;
        }

        private int wordOrName(int from, int to) {
            switch (to - from) {
                case 2:
                    return spells("fn", from) ? Mark.FN : spells("if", from) ? Mark.IF : Mark.NAME;
                case 3:
                    return spells("let", from) ? Mark.LET : Mark.NAME;
                case 4:
                    return spells("load", from) ? Mark.LOAD
                            : spells("else", from) ? Mark.ELSE
                            : spells("true", from) ? Mark.TRUE : Mark.NAME;
                case 5:
                    return spells("store", from) ? Mark.STORE
                            : spells("while", from) ? Mark.WHILE
                            : spells("false", from) ? Mark.FALSE : Mark.NAME;
                case 6:
                    return spells("return", from) ? Mark.RETURN : Mark.NAME;
                case 7:
                    return spells("require", from) ? Mark.REQUIRE : Mark.NAME;
                default:
                    return Mark.NAME;
            }
        }

        private boolean spells(String word, int from) {
            for (int i = 0; i < word.length(); i++) {
                if (signAt(from + i) != word.charAt(i)) {
                    return false;
                }
            }
            return true;
        }

        private int signAt(int place) {
            return place >= 0 && place < length && place < signs.length ? signs[place] : 0;
        }

        private static boolean isLetter(int sign) {
            return sign >= 'a' && sign <= 'z';
        }

        private static boolean isDigit(int sign) {
            return sign >= '0' && sign <= '9';
        }

        private static int twoSigns(int first, int second) {
            if (second == '=') {
                return first == '=' ? Mark.EQUAL
                        : first == '!' ? Mark.UNEQUAL
                        : first == '<' ? Mark.AT_MOST : Mark.BAD;
            }
            if (first == '&' && second == '&') {
                return Mark.AND;
            }
            return first == '|' && second == '|' ? Mark.OR : Mark.BAD;
        }

        private static int oneSign(int sign) {
            switch (sign) {
                case '(':
                    return Mark.ROUND_OPEN;
                case ')':
                    return Mark.ROUND_CLOSE;
                case '{':
                    return Mark.CURLY_OPEN;
                case '}':
                    return Mark.CURLY_CLOSE;
                case '[':
                    return Mark.SQUARE_OPEN;
                case ']':
                    return Mark.SQUARE_CLOSE;
                case ',':
                    return Mark.COMMA;
                case ';':
                    return Mark.SEMICOLON;
                case '=':
                    return Mark.BECOMES;
                case '<':
                    return Mark.LESS;
                case '+':
                    return Mark.PLUS;
                case '-':
                    return Mark.MINUS;
                case '*':
                    return Mark.TIMES;
                case '/':
                    return Mark.DIVIDE;
                case '%':
                    return Mark.REMAINDER;
                case '!':
                    return Mark.NOT;
                default:
                    return Mark.BAD;
            }
        }
    }

    /** The instructions of an accepted text, and where its functions begin. */
    private static final class Contract {
        // A token asks for one instruction at most, but for while, which asks for two and has five
        // signs: a text never has more instructions than signs.
        private final int[] marks = new int[MOST_SIGNS];
        private final int[] arguments = new int[MOST_SIGNS];
        private int size = 0;
        private final int[] entries = new int[MOST_FUNCTIONS];
        private final int[] parameters = new int[MOST_FUNCTIONS];
        private int functionCount = 0;

        void clear() {
            size = 0;
            functionCount = 0;
        }

        void become(Contract other) {
            size = other.size;
            functionCount = other.functionCount;
            System.arraycopy(other.marks, 0, marks, 0, MOST_SIGNS);
            System.arraycopy(other.arguments, 0, arguments, 0, MOST_SIGNS);
            System.arraycopy(other.entries, 0, entries, 0, MOST_FUNCTIONS);
            System.arraycopy(other.parameters, 0, parameters, 0, MOST_FUNCTIONS);
        }

        void addFunction() {
            if (functionCount < MOST_FUNCTIONS) {
                entries[functionCount] = size;
                parameters[functionCount] = 0;
                functionCount++;
            }
        }

        void addParameter() {
            if (functionCount > 0) {
                parameters[functionCount - 1]++;
            }
        }

        boolean hasFunction(int f) {
            return f >= 0 && f < functionCount;
        }

        int parametersOf(int f) {
            return hasFunction(f) ? parameters[f] : 0;
        }

        int entryOf(int f) {
            return hasFunction(f) ? entries[f] : 0;
        }

        /** Adds an instruction and tells where it stands. */
        int add(int mark, int argument) {
            if (size < MOST_SIGNS) {
                marks[size] = mark;
                arguments[size] = argument;
                size++;
            }
            return size - 1;
        }

        /** Lets the instruction there jump behind the latest one. */
        void aimHere(int instruction) {
            if (instruction >= 0 && instruction < size) {
                arguments[instruction] = size;
            }
        }

        int markAt(int instruction) {
            return instruction >= 0 && instruction < size ? marks[instruction] : Mark.FINISH;
        }

        int argumentAt(int instruction) {
            return instruction >= 0 && instruction < size ? arguments[instruction] : 0;
        }
    }

    /**
     * Goes over the tokens once, from left to right, and throws at the first fault. A type is
     * checked before the next token is looked at as one that must come, so the order of the
     * lines here is the order in which faults are found.
     */
    private static final class Compiler {
        private static final int INT = 0;
        private static final int BOOL = 1;

        // How tightly the signs between parts of an E bind; a factor binds most.
        private static final int LOOSEST = 0;
        private static final int COMPARISON = 2;
        private static final int TIGHTEST = 4;

        private final Tokens tokens = new Tokens();
        // A text with a fault must leave the contract alone, so each is built here first.
        private final Contract draft = new Contract();
        private int at = 0;
        private int fault = NONE;
        private final int[] functionNames = new int[MOST_FUNCTIONS];
        private final int[] variableNames = new int[MOST_VARIABLES];
        private final int[] variableTypes = new int[MOST_VARIABLES];
        private int variableCount = 0;

        /** Fills the draft; NONE, or the text's fault. */
        int translate(int[] signs, int length) {
            tokens.cut(signs, length);
            draft.clear();
            at = 0;
            fault = NONE;
            try {
                // A ninth turn is there to find the fault of a ninth function.
                for (int i = 0; i <= MOST_FUNCTIONS && (i == 0 || mark() != Mark.END); i++) {
                    functionName();
                    parameters();
                    block(0);
                    draft.add(Mark.FINISH, 0);
                }
            } catch (IllegalStateException stop) {
                return fault;
            }
            return NONE;
        }

        private void functionName() {
            int f = draft.functionCount;
            if (mark() != Mark.FN || f >= MOST_FUNCTIONS) {
                failAt(at);
                return;
            }
            at++;
            if (mark() != Mark.NAME || functionNamed(at) != NONE) {
                failAt(at);
            }
            functionNames[f] = at;
            draft.addFunction();
            variableCount = 0;
            at++;
        }

        private void parameters() {
            expect(Mark.ROUND_OPEN);
            if (mark() == Mark.NAME) {
                parameter();
                for (int i = 1; i < MOST_PARAMETERS && mark() == Mark.COMMA; i++) {
                    at++;
                    parameter();
                }
            }
            expect(Mark.ROUND_CLOSE);
        }

        private void parameter() {
            mustBeNewVariable();
            addVariable(at, INT);
            draft.addParameter();
            at++;
        }

        private void block(int depth) {
            int inside = open(Mark.CURLY_OPEN, depth);
            for (int i = 0; i < MOST_SIGNS && mark() != Mark.CURLY_CLOSE; i++) {
                statement(inside);
            }
            expect(Mark.CURLY_CLOSE);
        }

        private void statement(int depth) {
            switch (mark()) {
                case Mark.LET:
                    let(depth);
                    break;
                case Mark.NAME:
                    assignment(depth);
                    break;
                case Mark.STORE:
                    storing(depth);
                    break;
                case Mark.IF:
                    choice(depth);
                    break;
                case Mark.WHILE:
                    loop(depth);
                    break;
                case Mark.RETURN:
                    plain(INT, depth);
                    break;
                case Mark.REQUIRE:
                    plain(BOOL, depth);
                    break;
                default:
                    failAt(at);
            }
        }

        private void let(int depth) {
            at++;
            mustBeNewVariable();
            int name = at;
            at++;
            expect(Mark.BECOMES);
            int type = expression(LOOSEST, depth);
            // Only now: its own E does not know the variable.
            addVariable(name, type);
            draft.add(Mark.SET, variableCount - 1);
            expect(Mark.SEMICOLON);
        }

        private void assignment(int depth) {
            int name = at;
            int variable = variableNamed(name);
            if (variable == NONE) {
                failAt(name);
            }
            at++;
            expect(Mark.BECOMES);
            int type = expression(LOOSEST, depth);
            mustBe(typeOf(variable), type, name);
            draft.add(Mark.SET, variable);
            expect(Mark.SEMICOLON);
        }

        private void storing(int depth) {
            int word = at;
            at++;
            int inside = open(Mark.SQUARE_OPEN, depth);
            mustBe(INT, expression(LOOSEST, inside), word);
            expect(Mark.SQUARE_CLOSE);
            expect(Mark.BECOMES);
            mustBe(INT, expression(LOOSEST, depth), word);
            draft.add(Mark.STORE, 0);
            expect(Mark.SEMICOLON);
        }

        private void choice(int depth) {
            int test = test(depth);
            block(depth);
            if (mark() != Mark.ELSE) {
                draft.aimHere(test);
                return;
            }
            at++;
            int jump = draft.add(Mark.JUMP, 0);
            draft.aimHere(test);
            block(depth);
            draft.aimHere(jump);
        }

        private void loop(int depth) {
            int start = draft.size;
            int test = test(depth);
            block(depth);
            draft.add(Mark.JUMP, start);
            draft.aimHere(test);
        }

        /** The word of an if or while with its E; tells where the instruction stands. */
        private int test(int depth) {
            int word = at;
            at++;
            mustBe(BOOL, expression(LOOSEST, depth), word);
            return draft.add(Mark.TEST, 0);
        }

        /** A word, an E and a semicolon. */
        private void plain(int type, int depth) {
            int word = at;
            at++;
            mustBe(type, expression(LOOSEST, depth), word);
            draft.add(tokens.markOf(word), 0);
            expect(Mark.SEMICOLON);
        }

        /** Parts with the signs of one binding between them; tells their type. */
        private int expression(int binding, int depth) {
            if (binding > TIGHTEST) {
                return factor(depth);
            }
            int type = expression(binding + 1, depth);
            int most = binding == COMPARISON ? 1 : MOST_SIGNS;
            for (int i = 0; i < most && bindingOf(mark()) == binding; i++) {
                int sign = at;
                int operation = mark();
                boolean jumps = operation == Mark.AND || operation == Mark.OR;
                at++;
                int jump = jumps ? draft.add(operation, 0) : NONE;
                int second = expression(binding + 1, depth);
                type = typeOfOperation(operation, type, second);
                if (type == NONE) {
                    failAt(sign);
                }
                if (jumps) {
                    draft.aimHere(jump);
                } else {
                    draft.add(operation, 0);
                }
            }
            return type;
        }

        private static int bindingOf(int mark) {
            switch (mark) {
                case Mark.OR:
                    return LOOSEST;
                case Mark.AND:
                    return 1;
                case Mark.EQUAL:
                case Mark.UNEQUAL:
                case Mark.LESS:
                case Mark.AT_MOST:
                    return COMPARISON;
                case Mark.PLUS:
                case Mark.MINUS:
                    return 3;
                case Mark.TIMES:
                case Mark.DIVIDE:
                case Mark.REMAINDER:
                    return TIGHTEST;
                default:
                    return NONE;
            }
        }

        /** NONE if the operation is not of such types. */
        private static int typeOfOperation(int operation, int first, int second) {
            if (first != second) {
                return NONE;
            }
            switch (operation) {
                case Mark.EQUAL:
                case Mark.UNEQUAL:
                    return BOOL;
                case Mark.AND:
                case Mark.OR:
                    return first == BOOL ? BOOL : NONE;
                case Mark.LESS:
                case Mark.AT_MOST:
                    return first == INT ? BOOL : NONE;
                default:
                    return first == INT ? INT : NONE;
            }
        }

        private int factor(int depth) {
            int token = at;
            switch (mark()) {
                case Mark.MINUS:
                    return signed(INT, Mark.NEGATE, depth);
                case Mark.NOT:
                    return signed(BOOL, Mark.NOT, depth);
                case Mark.NUMBER:
                    at++;
                    draft.add(Mark.NUMBER, tokens.numberOf(token));
                    return INT;
                case Mark.TRUE:
                case Mark.FALSE:
                    at++;
                    draft.add(Mark.NUMBER, tokens.markOf(token) == Mark.TRUE ? 1 : 0);
                    return BOOL;
                case Mark.NAME:
                    at++;
                    return mark() == Mark.ROUND_OPEN ? calling(token, depth) : variable(token);
                case Mark.LOAD:
                    return loading(depth);
                case Mark.ROUND_OPEN:
                    int inside = open(Mark.ROUND_OPEN, depth);
                    int type = expression(LOOSEST, inside);
                    expect(Mark.ROUND_CLOSE);
                    return type;
                default:
                    failAt(token);
                    return INT;
            }
        }

        private int signed(int type, int operation, int depth) {
            int sign = at;
            int inside = open(mark(), depth);
            mustBe(type, factor(inside), sign);
            draft.add(operation, 0);
            return type;
        }

        private int loading(int depth) {
            int word = at;
            at++;
            int inside = open(Mark.SQUARE_OPEN, depth);
            mustBe(INT, expression(LOOSEST, inside), word);
            expect(Mark.SQUARE_CLOSE);
            draft.add(Mark.LOAD, 0);
            return INT;
        }

        private int variable(int name) {
            int variable = variableNamed(name);
            if (variable == NONE) {
                failAt(name);
            }
            draft.add(Mark.VARIABLE, variable);
            return typeOf(variable);
        }

        private int calling(int name, int depth) {
            int f = functionNamed(name);
            if (f == NONE) {
                failAt(name);
            }
            int inside = open(Mark.ROUND_OPEN, depth);
            int many = 0;
            boolean more = mark() != Mark.ROUND_CLOSE;
            for (int i = 0; i < MOST_SIGNS && more; i++) {
                mustBe(INT, expression(LOOSEST, inside), name);
                many++;
                more = mark() == Mark.COMMA;
                if (more) {
                    at++;
                }
            }
            expect(Mark.ROUND_CLOSE);
            if (many != draft.parametersOf(f)) {
                failAt(name);
            }
            draft.add(Mark.CALL, f);
            return INT;
        }

        private int mark() {
            return tokens.markOf(at);
        }

        private void expect(int mark) {
            if (mark() != mark) {
                failAt(at);
            }
            at++;
        }

        /** Goes behind a token that leads deeper; tells the depth there. */
        private int open(int mark, int depth) {
            if (mark() != mark || depth >= MOST_DEPTH) {
                failAt(at);
            }
            at++;
            return depth + 1;
        }

        private void mustBe(int wanted, int type, int token) {
            if (type != wanted) {
                failAt(token);
            }
        }

        private void mustBeNewVariable() {
            if (mark() != Mark.NAME || variableNamed(at) != NONE || variableCount >= MOST_VARIABLES) {
                failAt(at);
            }
        }

        private void addVariable(int name, int type) {
            if (variableCount < MOST_VARIABLES) {
                variableNames[variableCount] = name;
                variableTypes[variableCount] = type;
                variableCount++;
            }
        }

        private int typeOf(int variable) {
            return variable >= 0 && variable < variableCount ? variableTypes[variable] : INT;
        }

        private int variableNamed(int name) {
            for (int i = 0; i < variableCount; i++) {
                if (tokens.sameName(variableNames[i], name)) {
                    return i;
                }
            }
            return NONE;
        }

        private int functionNamed(int name) {
            for (int i = 0; i < draft.functionCount; i++) {
                if (tokens.sameName(functionNames[i], name)) {
                    return i;
                }
            }
            return NONE;
        }

        private void failAt(int token) {
            fault = tokens.placeOf(token);
            throw new IllegalStateException("the text has a fault");
        }
    }

    /** The numbers that are other than 0, with their keys, and a copy to go back to. */
    private static final class Store {
        private final int[] keys = new int[MOST_STORED];
        private final int[] values = new int[MOST_STORED];
        private int size = 0;
        private final int[] keptKeys = new int[MOST_STORED];
        private final int[] keptValues = new int[MOST_STORED];
        private int keptSize = 0;

        int read(int key) {
            int index = indexOf(key);
            return index == NONE ? 0 : values[index];
        }

        /** False if a 33rd number would be other than 0. */
        boolean write(int key, int value) {
            int index = indexOf(key);
            if (index != NONE) {
                if (value == 0) {
                    size--;
                    keys[index] = keys[size];
                    values[index] = values[size];
                } else {
                    values[index] = value;
                }
                return true;
            }
            if (value == 0) {
                return true;
            }
            if (size >= MOST_STORED) {
                return false;
            }
            keys[size] = key;
            values[size] = value;
            size++;
            return true;
        }

        void keep() {
            System.arraycopy(keys, 0, keptKeys, 0, size);
            System.arraycopy(values, 0, keptValues, 0, size);
            keptSize = size;
        }

        void restore() {
            System.arraycopy(keptKeys, 0, keys, 0, keptSize);
            System.arraycopy(keptValues, 0, values, 0, keptSize);
            size = keptSize;
        }

        private int indexOf(int key) {
            for (int i = 0; i < size; i++) {
                if (keys[i] == key) {
                    return i;
                }
            }
            return NONE;
        }
    }

    /** Runs instructions on a stack of its own, so that calls need no recursion here. */
    private static final class Machine {
        // Of one call at most 16 E's in one another wait, each with three operations at most and
        // two earlier E's of a call, and a store's key: under 90, for twelve calls.
        private static final int MOST_WAITING = 90 * MOST_CALLS;
        // Every jump follows a test, which costs; gas ends a run long before this.
        private static final int MOST_STEPS = 1000000;

        private final Store store = new Store();
        private final Contract contract = new Contract();
        private final int[] stack = new int[MOST_WAITING];
        private int top = 0;
        private final int[] variables = new int[MOST_CALLS * MOST_VARIABLES];
        private final int[] returns = new int[MOST_CALLS];
        private int calls = 0;
        private int next = 0;
        private int outcome = DONE;
        private int cost = 0;
        private int given = 0;

        int run(int f, int limit, int a, int b, int c) {
            top = 0;
            calls = 0;
            next = 0;
            cost = 0;
            given = 0;
            outcome = UNDER_WAY;
            pushParameters(contract.parametersOf(f), a, b, c);
            enter(f);
            for (int step = 0; step < MOST_STEPS && outcome == UNDER_WAY; step++) {
                int mark = contract.markAt(next);
                int argument = contract.argumentAt(next);
                next++;
                cost += costOf(mark);
                if (cost > limit) {
                    outcome = FAILED;
                } else {
                    perform(mark, argument);
                }
            }
            return outcome == UNDER_WAY ? FAILED : outcome;
        }

        private void pushParameters(int many, int a, int b, int c) {
            if (many > 0) {
                push(a);
            }
            if (many > 1) {
                push(b);
            }
            if (many > 2) {
                push(c);
            }
        }

        private static int costOf(int mark) {
            switch (mark) {
                case Mark.NUMBER:
                case Mark.VARIABLE:
                    return 1;
                case Mark.LOAD:
                    return 20;
                case Mark.CALL:
                    return 10;
                case Mark.STORE:
                    return 40;
                case Mark.JUMP:
                case Mark.FINISH:
                    return 0;
                default:
                    return 2;
            }
        }

        private void perform(int mark, int argument) {
            switch (mark) {
                case Mark.NUMBER:
                    push(argument);
                    break;
                case Mark.VARIABLE:
                    push(variable(argument));
                    break;
                case Mark.SET:
                    setVariable(argument, pop());
                    break;
                case Mark.NEGATE:
                    push(-pop());
                    break;
                case Mark.NOT:
                    push(1 - pop());
                    break;
                case Mark.LOAD:
                    push(store.read(pop()));
                    break;
                case Mark.STORE:
                    write();
                    break;
                case Mark.CALL:
                    enter(argument);
                    break;
                case Mark.RETURN:
                    leave(pop());
                    break;
                case Mark.FINISH:
                    leave(0);
                    break;
                case Mark.REQUIRE:
                    if (pop() == 0) {
                        outcome = REFUSED;
                    }
                    break;
                case Mark.JUMP:
                    next = argument;
                    break;
                case Mark.TEST:
                    if (pop() == 0) {
                        next = argument;
                    }
                    break;
                case Mark.AND:
                    skipIf(0, argument);
                    break;
                case Mark.OR:
                    skipIf(1, argument);
                    break;
                default:
                    operate(mark);
            }
        }

        /** The first part stays as the whole's value if it tells; otherwise the second takes its place. */
        private void skipIf(int telling, int target) {
            int first = pop();
            if (first == telling) {
                push(first);
                next = target;
            }
        }

        private void operate(int mark) {
            int second = pop();
            int first = pop();
            if (second == 0 && (mark == Mark.DIVIDE || mark == Mark.REMAINDER)) {
                outcome = FAILED;
            } else {
                push(reckon(mark, first, second));
            }
        }

        private static int reckon(int mark, int first, int second) {
            switch (mark) {
                case Mark.PLUS:
                    return first + second;
                case Mark.MINUS:
                    return first - second;
                case Mark.TIMES:
                    return first * second;
                case Mark.DIVIDE:
                    return second == 0 ? 0 : first / second;
                case Mark.REMAINDER:
                    return second == 0 ? 0 : first % second;
                case Mark.EQUAL:
                    return first == second ? 1 : 0;
                case Mark.UNEQUAL:
                    return first != second ? 1 : 0;
                case Mark.LESS:
                    return first < second ? 1 : 0;
                case Mark.AT_MOST:
                    return first <= second ? 1 : 0;
                default:
                    return 0;
            }
        }

        private void write() {
            int value = pop();
            int key = pop();
            if (!store.write(key, value)) {
                outcome = FAILED;
            }
        }

        private void enter(int f) {
            if (calls >= MOST_CALLS) {
                outcome = FAILED;
                return;
            }
            returns[calls] = next;
            calls++;
            int from = (calls - 1) * MOST_VARIABLES;
            Arrays.fill(variables, from, from + MOST_VARIABLES, 0);
            for (int i = contract.parametersOf(f) - 1; i >= 0; i--) {
                setVariable(i, pop());
            }
            next = contract.entryOf(f);
        }

        private void leave(int value) {
            calls--;
            if (calls <= 0) {
                given = value;
                outcome = DONE;
                return;
            }
            push(value);
            next = returns[calls];
        }

        private int variable(int index) {
            int slot = (calls - 1) * MOST_VARIABLES + index;
            return slot >= 0 && slot < variables.length ? variables[slot] : 0;
        }

        private void setVariable(int index, int value) {
            int slot = (calls - 1) * MOST_VARIABLES + index;
            if (slot >= 0 && slot < variables.length) {
                variables[slot] = value;
            }
        }

        private void push(int value) {
            if (top < stack.length) {
                stack[top] = value;
                top++;
            }
        }

        private int pop() {
            if (top <= 0) {
                return 0;
            }
            top--;
            return stack[top];
        }
    }
}
