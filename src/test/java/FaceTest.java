import java.lang.reflect.Constructor;
import java.lang.reflect.Field;
import java.lang.reflect.Method;
import java.lang.reflect.Modifier;
import java.util.TreeSet;

/** The public face: exactly the document's members, and all that is not of it private. */
public final class FaceTest {
    private static final String[] METHODS = {
        "public int Mastline.mast(int,int,int,int,int,boolean) throws java.lang.IllegalArgumentException,java.lang.IllegalStateException",
        "public void Mastline.lease(int,int,int,int,int,int,int) throws java.lang.IndexOutOfBoundsException,java.lang.IllegalArgumentException,java.lang.IllegalStateException",
        "public int Mastline.sun(int) throws java.lang.IllegalArgumentException",
        "public int Mastline.phone(int) throws java.lang.IllegalArgumentException,java.lang.IllegalStateException",
        "public int Mastline.call(int) throws java.lang.IndexOutOfBoundsException,java.lang.IllegalStateException",
        "public int Mastline.end(int) throws java.lang.IndexOutOfBoundsException,java.lang.IllegalStateException",
        "public int Mastline.move(int,int) throws java.lang.IndexOutOfBoundsException,java.lang.IllegalArgumentException",
        "public int Mastline.pass(int) throws java.lang.IllegalArgumentException,java.lang.IllegalStateException",
        "public int Mastline.ofMast(int,int) throws java.lang.IndexOutOfBoundsException,java.lang.IllegalArgumentException",
        "public int Mastline.trafficAnew(int) throws java.lang.IndexOutOfBoundsException",
        "public int Mastline.ofPhone(int,int) throws java.lang.IndexOutOfBoundsException,java.lang.IllegalArgumentException",
        "public float Mastline.strength(int) throws java.lang.IndexOutOfBoundsException",
        "public int Mastline.paid(int) throws java.lang.IndexOutOfBoundsException",
        "public int Mastline.holes()",
    };

    public static void main(String[] args) {
        Check.due("the class", "public final", () -> Modifier.toString(Mastline.class.getModifiers()));
        Check.due("NONE", -1, () -> Mastline.NONE);

        TreeSet<String> want = new TreeSet<>();
        for (String method : METHODS) {
            want.add(method);
        }
        TreeSet<String> got = new TreeSet<>();
        TreeSet<String> publicNames = new TreeSet<>();
        for (Method method : Mastline.class.getDeclaredMethods()) {
            if (!Modifier.isPrivate(method.getModifiers())) {
                got.add(method.toString());
                publicNames.add(method.getName());
            }
        }
        Check.due("the methods", want, () -> got);

        TreeSet<String> fields = new TreeSet<>();
        TreeSet<String> staticVariables = new TreeSet<>();
        for (Field field : Mastline.class.getDeclaredFields()) {
            int modifiers = field.getModifiers();
            if (!Modifier.isPrivate(modifiers)) {
                fields.add(field.toString());
            }
            if (Modifier.isStatic(modifiers) && !Modifier.isFinal(modifiers)) {
                staticVariables.add(field.toString());
            }
        }
        Check.due("the fields", "[public static final int Mastline.NONE]", () -> fields);
        Check.due("static variables", "[]", () -> staticVariables);

        TreeSet<String> constructors = new TreeSet<>();
        for (Constructor<?> constructor : Mastline.class.getDeclaredConstructors()) {
            constructors.add(constructor.toString());
        }
        Check.due("the constructors", "[public Mastline()]", () -> constructors);

        TreeSet<String> doubles = new TreeSet<>();
        for (Method method : Mastline.class.getDeclaredMethods()) {
            if (Modifier.isPrivate(method.getModifiers()) && publicNames.contains(method.getName())) {
                doubles.add(method.getName());
            }
        }
        Check.due("private methods with a public one's name", "[]", () -> doubles);
        Check.end("FaceTest");
    }
}
