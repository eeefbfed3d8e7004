import java.lang.reflect.Constructor;
import java.lang.reflect.Field;
import java.lang.reflect.Method;
import java.lang.reflect.Modifier;
import java.util.Arrays;
import java.util.Set;
import java.util.TreeSet;

/** The public face: what the document names, and nothing else that is not private. */
public final class FaceTest {
    public static void main(String[] args) {
        Set<String> got = new TreeSet<>();
        for (Field field : GasContract.class.getDeclaredFields()) {
            addUnlessPrivate(got, field.getModifiers(), field.toString());
        }
        for (Constructor<?> constructor : GasContract.class.getDeclaredConstructors()) {
            addUnlessPrivate(got, constructor.getModifiers(), constructor.toString());
        }
        for (Method method : GasContract.class.getDeclaredMethods()) {
            addUnlessPrivate(got, method.getModifiers(), method.toString());
        }
        String e = "java.lang.";
        Set<String> want = new TreeSet<>(Arrays.asList(
                "public static final int GasContract.NONE",
                "public GasContract()",
                "public int GasContract.put(int) throws " + e + "IllegalArgumentException," + e + "UnsupportedOperationException",
                "public void GasContract.end(int) throws " + e + "IllegalArgumentException",
                "public int GasContract.compile()",
                "public int GasContract.functions(int) throws " + e + "IllegalStateException," + e + "IndexOutOfBoundsException",
                "public int GasContract.call(int,int,int,int,int) throws " + e + "IllegalStateException," + e
                        + "IndexOutOfBoundsException," + e + "IllegalArgumentException",
                "public int GasContract.result(int) throws " + e + "IllegalArgumentException",
                "public int GasContract.load(int)",
                "public int GasContract.stored()"));
        boolean right = got.equals(want) && Modifier.isFinal(GasContract.class.getModifiers());
        if (!right) {
            System.out.println("the face is " + got + ", due is " + want);
            System.exit(1);
        }
    }

    private static void addUnlessPrivate(Set<String> face, int modifiers, String member) {
        if (!Modifier.isPrivate(modifiers)) {
            face.add(member);
        }
    }
}
