import java.lang.reflect.Constructor;
import java.lang.reflect.Field;
import java.lang.reflect.Method;
import java.lang.reflect.Modifier;
import java.util.TreeSet;

/** The public face is that of the document, and nothing else can be seen. */
public final class FaceTest {
    public static void main(String[] args) {
        Class<?> face = BinaryText.class;
        Check.due("the class's modifiers", Modifier.toString(face.getModifiers()), "public final");
        TreeSet<String> seen = new TreeSet<>();
        for (Constructor<?> c : face.getDeclaredConstructors()) {
            seen.add(c.toString());
        }
        for (Method m : face.getDeclaredMethods()) {
            if (!Modifier.isPrivate(m.getModifiers())) {
                seen.add(m.toString().replace("BinaryText.", ""));
            }
        }
        for (Field f : face.getDeclaredFields()) {
            if (!Modifier.isPrivate(f.getModifiers())) {
                seen.add(f.toString());
            }
        }
        TreeSet<String> want = new TreeSet<>();
        want.add("public BinaryText()");
        want.add("public boolean bounds(int,int)");
        want.add("public int wide(long)");
        want.add("public int narrow(int)");
        want.add("public int wideHex(long)");
        want.add("public int narrowHex(int)");
        want.add("public int characterAt(int)");
        want.add("public int kind()");
        want.add("public boolean minus()");
        want.add("public long digits()");
        want.add("public int tens()");
        Check.due("the members", seen, want);
        Check.end();
    }
}
