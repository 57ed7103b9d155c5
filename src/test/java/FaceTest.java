import java.lang.reflect.Constructor;
import java.lang.reflect.Field;
import java.lang.reflect.Method;
import java.lang.reflect.Modifier;
import java.util.ArrayList;
import java.util.Arrays;
import java.util.List;
import java.util.Set;
import java.util.TreeSet;

/** The class has the document's face, and what LANGUAGE.md asks of members that reflection can see. */
public final class FaceTest {
    private static final String INDEX = "IndexOutOfBoundsException";
    private static final String STATE = "IllegalStateException";
    private static final String ARGUMENT = "IllegalArgumentException";

    private FaceTest() {
    }

    public static void main(String[] args) {
        Set<String> face = new TreeSet<>(List.of(
                "boolean type[char][]",
                "int wipe[][]",
                "int read[int][" + INDEX + "]",
                "int cell[int, int, int][" + INDEX + ", " + STATE + "]",
                "int row[int, int, int][" + INDEX + ", " + STATE + "]",
                "int cells[int, int][" + INDEX + ", " + STATE + "]",
                "int differ[int, int][" + INDEX + ", " + STATE + "]",
                "int breaches[int][" + INDEX + ", " + STATE + "]",
                "int breach[int, int][" + INDEX + ", " + STATE + "]",
                "int count[int, int][" + INDEX + ", " + ARGUMENT + ", " + STATE + "]",
                "boolean same[int, int][" + INDEX + ", " + STATE + "]",
                "int tell[int][" + INDEX + ", " + STATE + "]",
                "int turned[int][" + INDEX + ", " + STATE + "]",
                "int length[][]",
                "char charAt[int][]"));
        Set<String> found = new TreeSet<>();
        Set<String> faceNames = new TreeSet<>();
        for (Method method : ToldShields.class.getDeclaredMethods()) {
            if (!Modifier.isPrivate(method.getModifiers())) {
                found.add(told(method));
                faceNames.add(method.getName());
            }
        }
        Due.due("the methods", found, face);
        Due.due("the class", Modifier.toString(ToldShields.class.getModifiers()), "public final");
        Constructor<?>[] constructors = ToldShields.class.getDeclaredConstructors();
        Due.due("constructors", Arrays.toString(constructors), "[public ToldShields()]");
        List<Class<?>> classes = new ArrayList<>(List.of(ToldShields.class.getDeclaredClasses()));
        classes.add(ToldShields.class);
        Due.due("twelve classes at most", classes.size() <= 12, true);
        for (Class<?> type : classes) {
            fields(type);
            methods(type, faceNames);
        }
        Due.end();
    }

    private static String told(Method method) {
        List<String> parameters = new ArrayList<>();
        for (Class<?> type : method.getParameterTypes()) {
            parameters.add(type.getSimpleName());
        }
        List<String> thrown = new ArrayList<>();
        for (Class<?> type : method.getExceptionTypes()) {
            thrown.add(type.getSimpleName());
        }
        return method.getReturnType().getSimpleName() + " " + method.getName() + parameters + thrown;
    }

    private static void fields(Class<?> type) {
        int own = 0;
        for (Field field : type.getDeclaredFields()) {
            int is = field.getModifiers();
            own += Modifier.isStatic(is) ? 0 : 1;
            Due.due("static is final: " + field, !Modifier.isStatic(is) || Modifier.isFinal(is), true);
            boolean isConstant = field.getName().equals("NONE");
            Due.due("private: " + field, type != ToldShields.class || isConstant || Modifier.isPrivate(is), true);
        }
        Due.due("twenty fields at most: " + type, own <= 20, true);
    }

    private static void methods(Class<?> type, Set<String> faceNames) {
        for (Method method : type.getDeclaredMethods()) {
            Due.due("seven parameters at most: " + method, method.getParameterCount() <= 7, true);
            Due.due("no lambda: " + method, method.getName().startsWith("lambda$"), false);
            boolean isFace = type == ToldShields.class && Modifier.isPublic(method.getModifiers());
            Due.due("no name of the face: " + method, !isFace && faceNames.contains(method.getName()), false);
        }
    }
}
