import java.lang.reflect.Constructor;
import java.lang.reflect.Field;
import java.lang.reflect.Method;
import java.lang.reflect.Modifier;
import java.util.ArrayList;
import java.util.Arrays;
import java.util.Collections;
import java.util.List;

/** The public face: just what the document lists, and nothing else. */
public final class FaceTest {
    private static final String[] METHODS = {
        "int feed(int, long)", "int ground()", "int fault()", "int told(int)", "int cell(int, int, int, int)",
        "int person(int, int)", "int owed(int, int)", "int go(int, int, int)", "int fold(int, boolean)", "int law(int)",
        "int build(int, int, int)", "int day(int)", "int best(int, int)", "int errand(int, int, int, int)",
        "int walk(int, int)", "int couple(int, int)", "int couples(int)", "int wall(int, int, int)",
        "int bestWall(int, int, int)", "int richest(int)", "int tell(int, int)", "int stood(int, int)",
        "int write(int, int, int)", "int tear()", "int judge()", "int seed(int)", "int keep(int)", "int goBack(int)"};

    public static void main(String[] args) throws Exception {
        Class<?> face = ShadowTax.class;
        Check.isTrue("the class is public and final", face.getModifiers() == (Modifier.PUBLIC | Modifier.FINAL));
        checkMethods(face);
        checkFields(face);
        Constructor<?>[] makers = face.getDeclaredConstructors();
        Check.due("constructors", makers.length, 1);
        Check.due("the constructor is public", makers[0].getModifiers(), Modifier.PUBLIC);
        Check.due("its parameters", makers[0].getParameterCount(), 0);
        for (Class<?> inside : face.getDeclaredClasses()) {
            checkInside(inside);
        }
        Check.isTrue("some twelve classes at most", face.getDeclaredClasses().length <= 11);
        Check.end("FaceTest");
    }

    private static void checkMethods(Class<?> face) {
        List<String> found = new ArrayList<>();
        for (Method method : face.getDeclaredMethods()) {
            int how = method.getModifiers();
            String told = told(method);
            if (Modifier.isPublic(how)) {
                Check.due(told + " is public alone", how, Modifier.PUBLIC);
                found.add(told);
            } else {
                Check.isTrue(told + " is private", Modifier.isPrivate(how));
                Check.isTrue(told + " has a name of its own", !isOfTheFace(method.getName()));
            }
        }
        List<String> due = new ArrayList<>(Arrays.asList(METHODS));
        Collections.sort(due);
        Collections.sort(found);
        Check.isTrue("public methods " + found, found.equals(due));
    }

    private static void checkFields(Class<?> face) throws Exception {
        String[] names = {"NONE", "UNKNOWN", "OUTSIDE", "NOT", "FULL"};
        int[] values = {-1, -1000000001, -1000000002, -1000000003, -1000000004};
        for (int i = 0; i < names.length; i++) {
            Field field = face.getDeclaredField(names[i]);
            Check.due(names[i] + " is public static final", field.getModifiers(), Modifier.PUBLIC | Modifier.STATIC | Modifier.FINAL);
            Check.isTrue(names[i] + " is an int", field.getType() == int.class);
            Check.due(names[i], field.getInt(null), values[i]);
        }
        int seen = 0;
        int own = 0;
        for (Field field : face.getDeclaredFields()) {
            int how = field.getModifiers();
            if (!Modifier.isPrivate(how)) {
                seen++;
            }
            if (Modifier.isStatic(how)) {
                Check.isTrue(field.getName() + " is final", Modifier.isFinal(how));
            } else {
                own++;
            }
        }
        Check.due("fields that are not private", seen, names.length);
        Check.isTrue("some twenty fields at most", own <= 20);
    }

    private static void checkInside(Class<?> inside) {
        int how = inside.getModifiers();
        Check.isTrue(inside + " is static", Modifier.isStatic(how));
        Check.isTrue(inside + " is private or package-visible", !Modifier.isPublic(how) && !Modifier.isProtected(how));
        int own = 0;
        for (Field field : inside.getDeclaredFields()) {
            if (!Modifier.isStatic(field.getModifiers())) {
                own++;
            }
        }
        Check.isTrue(inside + " has some twenty fields at most", own <= 20);
        for (Method method : inside.getDeclaredMethods()) {
            Check.isTrue(told(method) + " has a name of its own", !isOfTheFace(method.getName()));
            Check.isTrue(told(method) + " has seven parameters at most", method.getParameterCount() <= 7);
        }
    }

    private static boolean isOfTheFace(String name) {
        for (String method : METHODS) {
            if (method.startsWith("int " + name + "(")) {
                return true;
            }
        }
        return false;
    }

    private static String told(Method method) {
        String types = Arrays.toString(method.getParameterTypes());
        return method.getReturnType() + " " + method.getName() + "(" + types.substring(1, types.length() - 1) + ")";
    }
}
