import java.lang.reflect.Constructor;
import java.lang.reflect.Field;
import java.lang.reflect.Method;
import java.lang.reflect.Modifier;
import java.util.TreeSet;

/** The public face is that of the document, and nothing else can be seen. */
public final class FaceTest {
    public static void main(String[] args) {
        Class<?> face = BinaryText.class;
        Check.due("the class's modifiers", Modifier.toString(face.getModifiers()), "public final");
        Check.due("the class above", face.getSuperclass(), Object.class);
        Check.due("the interfaces", face.getInterfaces().length, 0);
        members(face);
        classesInside(face);
        Check.end();
    }

    private static void members(Class<?> face) {
        TreeSet<String> seen = new TreeSet<>();
        for (Constructor<?> c : face.getDeclaredConstructors()) {
            seen.add(c.toString());
        }
        for (Method m : face.getDeclaredMethods()) {
            if (!Modifier.isPrivate(m.getModifiers())) {
                seen.add(m.toString().replace("BinaryText.", ""));
            }
        }
        for (Field f : face.getDeclaredFields()) {
            if (!Modifier.isPrivate(f.getModifiers())) {
                seen.add(f.toString());
            }
        }
        TreeSet<String> want = new TreeSet<>();
        want.add("public BinaryText()");
        want.add("public boolean bounds(int,int)");
        want.add("public int wide(long)");
        want.add("public int narrow(int)");
        want.add("public int wideHex(long)");
        want.add("public int narrowHex(int)");
        want.add("public int characterAt(int)");
        want.add("public int kind()");
        want.add("public boolean minus()");
        want.add("public long digits()");
        want.add("public int tens()");
        Check.due("the members", seen, want);
    }

    private static void classesInside(Class<?> face) {
        for (Class<?> inside : face.getDeclaredClasses()) {
            int modifiers = inside.getModifiers();
            boolean hidden = !Modifier.isPublic(modifiers) && !Modifier.isProtected(modifiers);
            Check.due(inside + " is static and hidden", Modifier.isStatic(modifiers) && hidden, true);
        }
    }
}
