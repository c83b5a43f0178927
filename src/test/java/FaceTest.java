import java.lang.reflect.Constructor;
import java.lang.reflect.Field;
import java.lang.reflect.Method;
import java.lang.reflect.Modifier;
import java.util.Set;
import java.util.TreeSet;

/** The public face: exactly the constants, the constructor and the methods of the document. */
public final class FaceTest {
    private static final String[] METHODS = {
        "hang(int,int,int,int,int)", "lift(int)", "setClamp(int,int,int)", "setBucket(int,int)",
        "push(int,int,int)", "swap(int,int)", "addCurrent(int,int,int,int)", "clearCurrents()",
        "addStation(int,int)", "setTolerance(int)", "pass(int)", "observe(int,int,int)", "orient(int)",
        "type(char)", "clearText()", "runOrders()", "undo()", "keep(int)", "restore(int)",
        "wire(int,int)", "rest(int,int,int)", "position(int,int,int)", "calmIn(int,int)",
        "station(int,int)", "observation(int,int,int)", "bearing(int,int)", "surface(int)",
        "given(int,int)", "count(int)"};

    private static int wrong = 0;

    private static void check(String what, Object got, Object want) {
        if (!got.equals(want)) {
            wrong++;
            System.out.println(what + ": " + got + ", due is " + want);
        }
    }

    private static String faceOf(Method method) {
        StringBuilder face = new StringBuilder(method.getName()).append('(');
        for (Class<?> parameter : method.getParameterTypes()) {
            if (face.charAt(face.length() - 1) != '(') {
                face.append(',');
            }
            face.append(parameter.getName());
        }
        return face.append(')').toString();
    }

    private static void checkMethods() {
        Set<String> due = new TreeSet<>(Set.of(METHODS));
        Set<String> dueNames = new TreeSet<>();
        for (String method : METHODS) {
            dueNames.add(method.substring(0, method.indexOf('(')));
        }
        Set<String> seen = new TreeSet<>();
        for (Method method : PlumbShaft.class.getDeclaredMethods()) {
            if (Modifier.isPrivate(method.getModifiers())) {
                check("private " + method.getName() + " bears a public name",
                        dueNames.contains(method.getName()), false);
                continue;
            }
            check(method.getName() + " answers an int", method.getReturnType(), int.class);
            check(method.getName() + " is public, of the object", method.getModifiers(), Modifier.PUBLIC);
            seen.add(faceOf(method));
        }
        check("the methods", seen, due);
    }

    private static void checkFields() throws IllegalAccessException {
        Set<String> seen = new TreeSet<>();
        for (Field field : PlumbShaft.class.getDeclaredFields()) {
            if (Modifier.isPrivate(field.getModifiers())) {
                continue;
            }
            check(field.getName() + " is a public constant", field.getModifiers(),
                    Modifier.PUBLIC | Modifier.STATIC | Modifier.FINAL);
            seen.add(field.getName() + " = " + field.getInt(null));
        }
        check("the constants", seen, new TreeSet<>(Set.of("UNKNOWN = -100001", "BAD_VALUE = -100002",
                "REFUSED = -100003", "FULL = -100004", "NONE = -100005")));
    }

    private static void checkClass() {
        Class<?> type = PlumbShaft.class;
        check("the class is public and final", type.getModifiers(), Modifier.PUBLIC | Modifier.FINAL);
        check("the class extends nothing", type.getSuperclass(), Object.class);
        Constructor<?>[] constructors = type.getDeclaredConstructors();
        check("constructors", constructors.length, 1);
        check("the constructor is public", constructors[0].getModifiers(), Modifier.PUBLIC);
        check("the constructor's parameters", constructors[0].getParameterCount(), 0);
        for (Class<?> inner : type.getDeclaredClasses()) {
            check(inner.getName() + " is static", Modifier.isStatic(inner.getModifiers()), true);
            check(inner.getName() + " is public", Modifier.isPublic(inner.getModifiers()), false);
        }
    }

    public static void main(String[] args) throws IllegalAccessException {
        checkClass();
        checkFields();
        checkMethods();
        System.out.println(wrong == 0 ? "the face is as due" : wrong + " parts of the face are not as due");
        if (wrong != 0) {
            System.exit(1);
        }
    }
}
