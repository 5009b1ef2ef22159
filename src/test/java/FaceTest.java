import java.lang.reflect.Constructor;
import java.lang.reflect.Field;
import java.lang.reflect.Method;
import java.lang.reflect.Modifier;
import java.util.TreeSet;

/** The public face is the document's, and no other member can be seen from outside. */
public final class FaceTest {
    private static final String[] FACE = {
        "boolean write(long)", "boolean keep(int)", "int length()", "boolean wide()", "boolean narrow()", "long bits()",
        "long narrowed(long)", "long widened(long)", "long quotient(long,long,boolean)", "int compare(long,long,boolean)",
        "int readings()",
    };

    public static void main(String[] args) {
        TreeSet<String> due = new TreeSet<>();
        for (String method : FACE) {
            due.add("public " + method);
        }
        TreeSet<String> seen = new TreeSet<>();
        for (Method method : NearestReader.class.getDeclaredMethods()) {
            if (!Modifier.isPrivate(method.getModifiers())) {
                seen.add(method.toString().replace("NearestReader.", ""));
            }
        }
        Due.due("the face's methods are " + seen + ", due are " + due, seen.equals(due), true);
        for (Field field : NearestReader.class.getDeclaredFields()) {
            Due.due("private " + field, Modifier.isPrivate(field.getModifiers()), true);
        }
        Constructor<?>[] constructors = NearestReader.class.getDeclaredConstructors();
        Due.due("constructors", constructors.length, 1);
        Due.due("its parameters", constructors[0].getParameterCount(), 0);
        Due.due("it is public", Modifier.isPublic(constructors[0].getModifiers()), true);
        int modifiers = NearestReader.class.getModifiers();
        Due.due("public and final", modifiers, Modifier.PUBLIC | Modifier.FINAL);
        for (Class<?> inside : NearestReader.class.getDeclaredClasses()) {
            Due.due("static " + inside, Modifier.isStatic(inside.getModifiers()), true);
            Due.due("not public " + inside, Modifier.isPublic(inside.getModifiers()), false);
            if (!inside.isEnum()) {
                takesNothing(inside);
            }
        }
        Due.end();
    }

    /** LANGUAGE.md, rule 12: where no constructor takes anything, none hands out a part of what it makes. */
    private static void takesNothing(Class<?> inside) {
        for (Constructor<?> constructor : inside.getDeclaredConstructors()) {
            Due.due("parameters of " + constructor, constructor.getParameterCount(), 0);
        }
    }
}
