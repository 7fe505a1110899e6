import java.lang.reflect.Constructor;
import java.lang.reflect.Field;
import java.lang.reflect.Member;
import java.lang.reflect.Method;
import java.lang.reflect.Modifier;
import java.util.Arrays;
import java.util.Set;
import java.util.TreeSet;

/** The face of the class is the document's, with no other member that can be seen from outside. */
public final class FaceTests {
    private static final String[] FACE = {
        "field P = 10007", "field BAD = -9", "field MIXED = -8", "field LIMIT = -7", "field UNDEFINED = -6",
        "constructor []", "int constant 2", "int linear 3", "int power 2", "int pole 3", "int add 3",
        "int multiply 3", "int shift 2", "int difference 2", "int telescope 3", "boolean check 2",
        "boolean same 2", "int ratio 1", "int degree 1", "int coefficient 2", "int exponent 2", "int weight 3",
        "int value 2", "int sum 3",
    };

    private static int wrong = 0;

    public static void main(String[] args) throws IllegalAccessException {
        Class<?> type = TelescopeDesk.class;
        demand("public and final", Modifier.isPublic(type.getModifiers()) && Modifier.isFinal(type.getModifiers()));
        Set<String> face = new TreeSet<>();
        addFields(type, face);
        for (Constructor<?> made : type.getDeclaredConstructors()) {
            demand("the constructor is public", Modifier.isPublic(made.getModifiers()));
            face.add("constructor " + Arrays.toString(made.getParameterTypes()));
        }
        Set<String> names = addMethods(type, face);
        Set<String> want = new TreeSet<>(Arrays.asList(FACE));
        demand("the face is " + face + ", due is " + want, face.equals(want));
        for (Class<?> inside : type.getDeclaredClasses()) {
            demand(inside + " is static", Modifier.isStatic(inside.getModifiers()));
            demandOtherNames(inside, names);
        }
        demandOtherNames(type, names);
        System.out.println(wrong == 0 ? "the face is as due" : wrong + " faults in the face");
        if (wrong != 0) {
            System.exit(1);
        }
    }

    private static void addFields(Class<?> type, Set<String> face) throws IllegalAccessException {
        for (Field field : type.getDeclaredFields()) {
            if (isSeen(field)) {
                boolean constant = Modifier.isStatic(field.getModifiers()) && Modifier.isFinal(field.getModifiers());
                demand(field + " is a constant", constant && field.getType() == int.class);
                face.add("field " + field.getName() + " = " + field.get(null));
            }
        }
    }

    private static Set<String> addMethods(Class<?> type, Set<String> face) {
        Set<String> names = new TreeSet<>();
        for (Method method : type.getDeclaredMethods()) {
            if (isSeen(method)) {
                demand(method + " is public", Modifier.isPublic(method.getModifiers()));
                demand(method + " is no static one", !Modifier.isStatic(method.getModifiers()));
                for (Class<?> parameter : method.getParameterTypes()) {
                    demand(method + " takes ints", parameter == int.class);
                }
                names.add(method.getName());
                face.add(method.getReturnType() + " " + method.getName() + " " + method.getParameterCount());
            }
        }
        return names;
    }

    private static void demandOtherNames(Class<?> type, Set<String> names) {
        for (Method method : type.getDeclaredMethods()) {
            boolean ofTheFace = type == TelescopeDesk.class && isSeen(method);
            demand(method + " bears a name of the face", ofTheFace || !names.contains(method.getName()));
        }
    }

    private static boolean isSeen(Member member) {
        return !Modifier.isPrivate(member.getModifiers()) && !member.isSynthetic();
    }

    private static void demand(String what, boolean holds) {
        if (!holds) {
            wrong++;
            System.out.println("not so: " + what);
        }
    }
}
