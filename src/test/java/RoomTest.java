import java.lang.management.ManagementFactory;

/** All calls of an object live in one room: an object is small, and its calls make next to nothing. */
public final class RoomTest {
    // With the calls that put the text, either object stays below 512.
    private static final int TURNS = 140;

    public static void main(String[] args) {
        Check check = new Check();
        String text = "fn f(n){" + "if true{".repeat(15) + "n=1;" + "}".repeat(15) + "while true{store[n%32]=n;n=n+1;}}";
        String fault = "fn f(){return " + "1+".repeat(200) + "x;}";
        long before = allocated();
        GasContract good = Check.with(text);
        GasContract bad = Check.with(fault);
        check.due("two objects are small", small(before, 200_000), 1);
        before = allocated();
        for (int i = 0; i < TURNS; i++) {
            good.compile();
            good.call(0, 50000, i, i, i);
            good.load(i);
        }
        check.due("calls of a good text make next to nothing", small(before, 30_000), 1);
        before = allocated();
        for (int i = 0; i < TURNS; i++) {
            bad.compile();
        }
        check.due("a fault makes one exception", small(before, TURNS * 4_000), 1);
        check.finish();
    }

    private static int small(long before, long most) {
        long made = allocated() - before;
        if (made > most) {
            System.out.println("made " + made + " bytes");
        }
        return made <= most ? 1 : 0;
    }

    private static long allocated() {
        return ((com.sun.management.ThreadMXBean) ManagementFactory.getThreadMXBean()).getCurrentThreadAllocatedBytes();
    }
}
