import java.lang.reflect.Constructor;
import java.lang.reflect.Field;
import java.lang.reflect.Method;
import java.lang.reflect.Modifier;
import java.util.HashSet;
import java.util.Set;
import java.util.TreeSet;

/** The public face, and what LANGUAGE.md (rules 1, 5 and 11) says of a class's members. */
public final class FaceTest {
    private static final String[] FACE = {
        "boolean feed(int,int,int,int,int)", "boolean end(int)", "int open()", "int fault()", "int place()", "int count(int)",
        "long entry(int,int,int)", "int letter(int,int,int)", "boolean type(long)", "int number(int)", "int find(int)",
        "int read(int,int)", "int octet(int)", "int mount(int)", "int index()", "int attribute(int)", "int value(int)"};

    public static void main(String[] args) {
        Class<?> face = NestedArchives.class;
        Check.due("public and final", face.getModifiers() & (Modifier.PUBLIC | Modifier.FINAL), Modifier.PUBLIC | Modifier.FINAL);
        methods(face);
        for (Constructor<?> made : face.getDeclaredConstructors()) {
            Check.due("constructor " + made, made.toString(), "public NestedArchives()");
        }
        fields(face);
        Check.due("classes", face.getDeclaredClasses().length <= 12, true);
        for (Class<?> inside : face.getDeclaredClasses()) {
            Check.due(inside + " is static", Modifier.isStatic(inside.getModifiers()), true);
            Check.due(inside + " is not public", inside.getModifiers() & (Modifier.PUBLIC | Modifier.PROTECTED), 0);
            fields(inside);
        }
        Check.finish();
    }

    private static void methods(Class<?> face) {
        Set<String> due = new TreeSet<>(Set.of(FACE));
        Set<String> got = new TreeSet<>();
        Set<String> names = new HashSet<>();
        for (Method method : face.getDeclaredMethods()) {
            if (Modifier.isPublic(method.getModifiers())) {
                StringBuilder line = new StringBuilder(method.getReturnType() + " " + method.getName() + "(");
                for (Class<?> type : method.getParameterTypes()) {
                    line.append(line.charAt(line.length() - 1) == '(' ? "" : ",").append(type);
                }
                got.add(line.append(")").toString());
                names.add(method.getName());
            }
        }
        Check.due("public methods", got.toString(), due.toString());
        for (Method method : face.getDeclaredMethods()) {
            Check.due(method + " takes at most seven", method.getParameterCount() <= 7, true);
            if (!Modifier.isPublic(method.getModifiers())) {
                Check.due(method + " is private", Modifier.isPrivate(method.getModifiers()), true);
                Check.due(method + " has a name of its own", names.contains(method.getName()), false);
            }
        }
    }

    private static void fields(Class<?> of) {
        int held = 0;
        for (Field field : of.getDeclaredFields()) {
            Check.due(field + " is private", Modifier.isPrivate(field.getModifiers()), true);
            if (Modifier.isStatic(field.getModifiers())) {
                Check.due(field + " is final", Modifier.isFinal(field.getModifiers()), true);
            } else {
                held++;
            }
        }
        Check.due("fields of " + of, held <= 20, true);
    }
}
