import java.lang.reflect.Constructor;
import java.lang.reflect.Field;
import java.lang.reflect.Method;
import java.lang.reflect.Modifier;
import java.util.Set;
import java.util.TreeSet;

/** The public face is the document's, no less and no more. */
public final class FaceTest {
    private static final Set<String> FACE = Set.of(
        "int put(int,int)", "int get(int)", "boolean has(int)", "boolean remove(int)",
        "int size()", "int probeMax()", "int rekey()", "int migrateStep()", "int hashLo(int)",
        "int hashHi(int)", "int keyWord(int)", "int nth(int)", "int filled(boolean,int)",
        "int above(int)", "long sum()", "int rekeys()");

    private FaceTest() {
    }

    private static String told(Method method) {
        StringBuilder text = new StringBuilder();
        text.append(method.getReturnType().getName()).append(' ').append(method.getName()).append('(');
        String between = "";
        for (Class<?> type : method.getParameterTypes()) {
            text.append(between).append(type.getName());
            between = ",";
        }
        return text.append(')').toString();
    }

    private static void methods() {
        Set<String> open = new TreeSet<>();
        Set<String> openNames = new TreeSet<>();
        for (Method method : KeyedCells.class.getDeclaredMethods()) {
            if (!Modifier.isPrivate(method.getModifiers())) {
                open.add(told(method));
                openNames.add(method.getName());
                Check.due(told(method) + " is public", Modifier.isPublic(method.getModifiers()), true);
                Check.due(told(method) + " is static", Modifier.isStatic(method.getModifiers()), false);
                Check.due(told(method) + " tells exceptions", method.getExceptionTypes().length, 0);
            }
        }
        Check.due("the methods are those of the face: " + open, open.equals(FACE), true);
        for (Method method : KeyedCells.class.getDeclaredMethods()) {
            if (Modifier.isPrivate(method.getModifiers())) {
                Check.due(told(method) + " bears a public name", openNames.contains(method.getName()), false);
            }
        }
    }

    private static void constructors() throws NoSuchMethodException {
        Constructor<?>[] made = KeyedCells.class.getDeclaredConstructors();
        Check.due("constructors", made.length, 1);
        Constructor<?> due = KeyedCells.class.getDeclaredConstructor(int.class, int.class, int.class);
        Check.due("the constructor is public", Modifier.isPublic(due.getModifiers()), true);
    }

    private static void fieldsAndClasses() {
        for (Field field : KeyedCells.class.getDeclaredFields()) {
            Check.due(field + " is private", Modifier.isPrivate(field.getModifiers()), true);
            if (Modifier.isStatic(field.getModifiers())) {
                Check.due(field + " is final", Modifier.isFinal(field.getModifiers()), true);
            }
        }
        for (Class<?> inside : KeyedCells.class.getDeclaredClasses()) {
            int kind = inside.getModifiers();
            Check.due(inside + " is static", Modifier.isStatic(kind), true);
            Check.due(inside + " is open", Modifier.isPublic(kind) || Modifier.isProtected(kind), false);
        }
    }

    public static void main(String[] args) throws NoSuchMethodException {
        int kind = KeyedCells.class.getModifiers();
        Check.due("the class is public and final", Modifier.isPublic(kind) && Modifier.isFinal(kind), true);
        Check.due("the class has a package", !KeyedCells.class.getPackageName().isEmpty(), false);
        methods();
        constructors();
        fieldsAndClasses();
        Check.end();
    }
}
