import java.lang.reflect.Constructor;
import java.lang.reflect.Executable;
import java.lang.reflect.Field;
import java.lang.reflect.Method;
import java.lang.reflect.Modifier;
import java.util.ArrayList;
import java.util.Arrays;
import java.util.Collections;
import java.util.List;

/** The public face: exactly the document's members, and nothing else that can be seen. */
public final class FaceTest {
    private static final String INDEX = "IndexOutOfBoundsException";
    private static final String ARGUMENT = "IllegalArgumentException";
    private static final String STATE = "IllegalStateException";

    private static final String[] FACE = {
        "int start(int,int) " + INDEX + " " + STATE,
        "int step(int,int) " + INDEX + " " + ARGUMENT,
        "int back(int) " + INDEX + " " + STATE,
        "int slither(int,int) " + INDEX + " " + ARGUMENT,
        "int turn(int,int,int) " + INDEX + " " + ARGUMENT,
        "int reverse(int) " + INDEX,
        "int join(int,int) " + INDEX + " " + ARGUMENT + " " + STATE,
        "int split(int,int) " + INDEX + " " + STATE,
        "int remove(int) " + INDEX,
        "int append(int) " + ARGUMENT + " " + STATE,
        "int clearBuffer()",
        "int firstError()",
        "int draw() " + ARGUMENT + " " + STATE,
        "int write(int) " + INDEX,
        "int undo() " + STATE,
        "int keep(int) " + ARGUMENT,
        "int goBack(int) " + ARGUMENT + " " + STATE,
        "int site(int,int,int) " + INDEX + " " + ARGUMENT,
        "int place(int,int) " + INDEX,
        "int path(int,int) " + INDEX + " " + ARGUMENT,
        "int trapped()",
        "int touching(int,int) " + INDEX + " " + ARGUMENT,
        "int shape(int,int) " + INDEX + " " + ARGUMENT,
        "boolean isAlike(int,int) " + INDEX,
        "int free(int) " + ARGUMENT,
        "int ways(int,int) " + INDEX + " " + ARGUMENT,
        "int bestStep(int) " + INDEX,
        "int reach(int) " + INDEX,
        "int ifTurned(int,int,int) " + INDEX + " " + ARGUMENT,
        "int turnable(int) " + INDEX,
        "int count(int) " + ARGUMENT,
        "double spread(int) " + INDEX,
        "float share()",
    };

    public static void main(String[] args) {
        Due due = new Due("FaceTest");
        int modifiers = LatticePaths.class.getModifiers();
        due.holds("the class is public and final", Modifier.isPublic(modifiers) && Modifier.isFinal(modifiers));
        due.answers("NONE", -1, LatticePaths.NONE);
        checkMethods(due);
        checkConstructors(due);
        checkFields(due);
        checkClassesInside(due);
        due.end();
    }

    private static void checkMethods(Due due) {
        List<String> want = new ArrayList<>(Arrays.asList(FACE));
        List<String> got = new ArrayList<>();
        List<String> names = new ArrayList<>();
        for (Method method : LatticePaths.class.getDeclaredMethods()) {
            if (Modifier.isPublic(method.getModifiers())) {
                got.add(told(method));
                names.add(method.getName());
                due.holds(method + " is no static one", !Modifier.isStatic(method.getModifiers()));
            }
        }
        Collections.sort(want);
        Collections.sort(got);
        due.holds("the public methods are " + got + ", due are " + want, got.equals(want));
        for (Method method : LatticePaths.class.getDeclaredMethods()) {
            if (!Modifier.isPublic(method.getModifiers())) {
                due.holds(method + " is private", Modifier.isPrivate(method.getModifiers()));
                due.holds(method + " has a name of its own", !names.contains(method.getName()));
            }
        }
    }

    private static String told(Method method) {
        StringBuilder told = new StringBuilder();
        told.append(method.getReturnType().getSimpleName()).append(' ').append(method.getName()).append('(');
        Class<?>[] types = method.getParameterTypes();
        for (int i = 0; i < types.length; i++) {
            told.append(i == 0 ? "" : ",").append(types[i].getSimpleName());
        }
        told.append(')');
        for (Class<?> thrown : ((Executable) method).getExceptionTypes()) {
            told.append(' ').append(thrown.getSimpleName());
        }
        return told.toString();
    }

    private static void checkConstructors(Due due) {
        Constructor<?>[] constructors = LatticePaths.class.getDeclaredConstructors();
        due.answers("the number of constructors", 1, constructors.length);
        due.answers("the constructor's parameters", 0, constructors[0].getParameterCount());
        due.holds("the constructor is public", Modifier.isPublic(constructors[0].getModifiers()));
    }

    private static void checkFields(Due due) {
        for (Field field : LatticePaths.class.getDeclaredFields()) {
            int modifiers = field.getModifiers();
            boolean isNone = field.getName().equals("NONE");
            due.holds(field + " is private, but for NONE", isNone == !Modifier.isPrivate(modifiers));
            due.holds(field + " is final", Modifier.isFinal(modifiers));
            if (isNone) {
                due.holds("NONE is public and static", Modifier.isPublic(modifiers) && Modifier.isStatic(modifiers));
            }
        }
    }

    private static void checkClassesInside(Due due) {
        due.holds("there are some twelve classes", LatticePaths.class.getDeclaredClasses().length < 12);
        for (Class<?> inside : LatticePaths.class.getDeclaredClasses()) {
            due.holds(inside + " is private and static",
                    Modifier.isPrivate(inside.getModifiers()) && Modifier.isStatic(inside.getModifiers()));
            for (Field field : inside.getDeclaredFields()) {
                due.holds(field + " is no static state",
                        !Modifier.isStatic(field.getModifiers()) || Modifier.isFinal(field.getModifiers()));
            }
            checkNames(due, inside);
            checkFewFields(due, inside);
        }
        checkFewFields(due, LatticePaths.class);
    }

    /** No private method bears the name of a public one, in the classes inside neither. */
    private static void checkNames(Due due, Class<?> inside) {
        for (Method method : inside.getDeclaredMethods()) {
            if (Modifier.isPrivate(method.getModifiers())) {
                for (String call : FACE) {
                    due.holds(method + " has another name than " + call,
                            !call.contains(" " + method.getName() + "("));
                }
            }
        }
    }

    private static void checkFewFields(Due due, Class<?> type) {
        int fields = 0;
        for (Field field : type.getDeclaredFields()) {
            fields += Modifier.isStatic(field.getModifiers()) ? 0 : 1;
        }
        due.holds(type + " has at most twenty fields", fields <= 20);
    }
}
