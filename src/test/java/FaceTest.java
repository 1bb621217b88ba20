import java.lang.reflect.Constructor;
import java.lang.reflect.Field;
import java.lang.reflect.Method;
import java.lang.reflect.Modifier;
import java.util.Arrays;
import java.util.TreeSet;

/** The public face: just what the document names. */
public final class FaceTest {
    public static void main(String[] args) {
        Bench.due("public and final", Modifier.toString(QueryBench.class.getModifiers()), "public final");
        TreeSet<String> visible = new TreeSet<>();
        for (Method m : QueryBench.class.getDeclaredMethods()) {
            if (!Modifier.isPrivate(m.getModifiers()) && !m.isSynthetic()) {
                visible.add(m.toGenericString().replace("QueryBench.", "").replace("java.lang.", ""));
            }
        }
        for (Constructor<?> c : QueryBench.class.getDeclaredConstructors()) {
            visible.add(c.toGenericString());
        }
        for (Field f : QueryBench.class.getDeclaredFields()) {
            if (!Modifier.isPrivate(f.getModifiers())) {
                visible.add(f.toGenericString());
            }
        }
        TreeSet<String> named = new TreeSet<>(Arrays.asList(
                "public QueryBench()",
                "public int feed(int,int,int,int,int) throws IndexOutOfBoundsException",
                "public int end(int) throws IllegalArgumentException",
                "public int load(int) throws IllegalArgumentException,UnsupportedOperationException",
                "public int read() throws UnsupportedOperationException",
                "public int run(int) throws IllegalArgumentException,IllegalStateException,IndexOutOfBoundsException",
                "public int work(int) throws IllegalArgumentException,IllegalStateException,IndexOutOfBoundsException",
                "public long word(int) throws IndexOutOfBoundsException",
                "public int count(int) throws IllegalArgumentException"));
        Bench.due("the face", visible, named);
        Bench.finish();
    }
}
