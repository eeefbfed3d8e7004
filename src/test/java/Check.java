/** Counts the answers that are not due, and tells of each. */
final class Check {
    private int wrong = 0;
    private int looked = 0;

    void due(String what, long got, long want) {
        looked++;
        if (got != want) {
            wrong++;
            System.out.println(what + " answered " + got + ", due is " + want);
        }
    }

    void dueThrow(String what, Class<? extends RuntimeException> want, Runnable call) {
        looked++;
        Class<?> got = null;
        try {
            call.run();
        } catch (RuntimeException e) {
            got = e.getClass();
        }
        if (got != want) {
            wrong++;
            System.out.println(what + " threw " + got + ", due is " + want);
        }
    }

    /** The fault of a text on a new object. */
    void dueFault(String text, int want) {
        due("the fault of " + text, with(text).compile(), want);
    }

    /** A text in which ^ stands ahead of its fault, or which has no ^ and is accepted. */
    void dueMarked(String marked) {
        int place = marked.indexOf('^');
        dueFault(marked.replace("^", ""), place);
    }

    /** A transaction with its answer, and what result then tells of it. */
    void dueCall(GasContract x, int f, int gas, int[] abc, int outcome, int given, int charged) {
        String what = "call(" + f + ", " + gas + ", " + abc[0] + ", " + abc[1] + ", " + abc[2] + ")";
        due(what, x.call(f, gas, abc[0], abc[1], abc[2]), outcome);
        due("result(0) behind " + what, x.result(0), given);
        due("result(1) behind " + what, x.result(1), charged);
    }

    /** What the first function of a text gives and costs, done with just so much gas and not with less. */
    void dueRun(String text, int given, int cost, int... abc) {
        int[] three = {0, 0, 0};
        System.arraycopy(abc, 0, three, 0, abc.length);
        due(text + " is accepted", with(text).compile(), GasContract.NONE);
        dueCall(compiled(text), 0, cost, three, 0, given, cost);
        dueCall(compiled(text), 0, 50000, three, 0, given, cost);
        if (cost > 0) {
            dueCall(compiled(text), 0, cost - 1, three, 1, 0, cost - 1);
        }
    }

    static int[] abc(int a, int b, int c) {
        return new int[] {a, b, c};
    }

    static GasContract with(String text) {
        GasContract x = new GasContract();
        write(x, text);
        return x;
    }

    static GasContract compiled(String text) {
        GasContract x = with(text);
        if (x.compile() != GasContract.NONE) {
            System.out.println("not accepted: " + text);
            System.exit(1);
        }
        return x;
    }

    /** Puts a text behind what the object has. */
    static void write(GasContract x, String text) {
        for (int i = 0; i < text.length(); i += 4) {
            int signs = 0;
            for (int j = 0; j < 4 && i + j < text.length(); j++) {
                signs |= text.charAt(i + j) << (8 * j);
            }
            x.put(signs);
        }
    }

    void finish() {
        if (looked == 0 || wrong > 0) {
            System.out.println(wrong + " wrong of " + looked);
            System.exit(1);
        }
    }
}
