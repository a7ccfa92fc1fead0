import java.lang.reflect.Constructor;
import java.lang.reflect.Field;
import java.lang.reflect.Method;
import java.lang.reflect.Modifier;
import java.util.ArrayList;
import java.util.Arrays;
import java.util.List;
import java.util.Set;
import java.util.TreeSet;

/** The public face: all members that the document has, and no other one that can be seen. */
public final class FaceTest {
    private static final String[] FACE = {
        "boolean integer(long)", "boolean bytes(long,int)", "boolean more(long,int)",
        "boolean list(int)", "boolean map(int)", "boolean constructor(int,int)",
        "boolean copy(int)", "boolean drop()", "int open()", "int write()", "void clear()",
        "boolean give(long,int)", "boolean cut(int)", "void turn()", "int read()",
        "int node(int,int,int) throws IndexOutOfBoundsException",
        "long value(int,int) throws IndexOutOfBoundsException,IllegalArgumentException",
        "int byteAt(int,int,int)", "int compare(int,int) throws IndexOutOfBoundsException",
        "int output(int)", "int look(int)",
    };

    public static void main(String[] args) throws NoSuchFieldException {
        Check.due("NONE", DataTree.NONE, -1);
        Check.yes("public and final", DataTree.class.getModifiers() == (Modifier.PUBLIC | Modifier.FINAL));
        methods();
        fieldsAndConstructors();
        nestedClasses();
        Check.end();
    }

    private static void methods() {
        Set<String> seen = new TreeSet<>();
        Set<String> publicNames = new TreeSet<>();
        Set<String> privateNames = new TreeSet<>();
        for (Method m : DataTree.class.getDeclaredMethods()) {
            if (Modifier.isPrivate(m.getModifiers())) {
                privateNames.add(m.getName());
                continue;
            }
            publicNames.add(m.getName());
            Check.yes(m + " is public", m.getModifiers() == Modifier.PUBLIC);
            String thrown = m.getExceptionTypes().length == 0 ? "" : " throws " + names(m.getExceptionTypes());
            seen.add(m.getReturnType() + " " + m.getName() + "(" + names(m.getParameterTypes()) + ")" + thrown);
        }
        Check.yes("methods " + seen, seen.equals(new TreeSet<>(Arrays.asList(FACE))));
        privateNames.retainAll(publicNames);
        Check.yes("private methods with public names " + privateNames, privateNames.isEmpty());
    }

    private static String names(Class<?>[] types) {
        List<String> names = new ArrayList<>();
        for (Class<?> type : types) {
            names.add(type.getSimpleName());
        }
        return String.join(",", names);
    }

    private static void fieldsAndConstructors() throws NoSuchFieldException {
        Field none = DataTree.class.getDeclaredField("NONE");
        Check.yes("NONE is an int", none.getType() == int.class);
        int constant = Modifier.PUBLIC | Modifier.STATIC | Modifier.FINAL;
        Check.due("NONE is public, static and final", none.getModifiers(), constant);
        for (Field f : DataTree.class.getDeclaredFields()) {
            boolean hidden = Modifier.isPrivate(f.getModifiers());
            Check.yes(f + " is private", hidden || f.getName().equals("NONE"));
            boolean state = Modifier.isStatic(f.getModifiers()) && !Modifier.isFinal(f.getModifiers());
            Check.no(f + " is static state", state);
        }
        Constructor<?>[] all = DataTree.class.getDeclaredConstructors();
        Check.due("constructors", all.length, 1);
        Check.due("its parameters", all[0].getParameterCount(), 0);
        Check.due("its exceptions", all[0].getExceptionTypes().length, 0);
        Check.yes("it is public", Modifier.isPublic(all[0].getModifiers()));
    }

    private static void nestedClasses() {
        for (Class<?> c : DataTree.class.getDeclaredClasses()) {
            int m = c.getModifiers();
            Check.yes(c + " is static", Modifier.isStatic(m));
            Check.no(c + " is public or protected", Modifier.isPublic(m) || Modifier.isProtected(m));
        }
    }
}
