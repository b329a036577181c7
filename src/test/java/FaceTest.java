import java.lang.reflect.Constructor;
import java.lang.reflect.Field;
import java.lang.reflect.Method;
import java.lang.reflect.Modifier;
import java.util.TreeSet;

/** The public face is the document's, and nothing else of the class can be seen. */
public final class FaceTest {
    private static final String[] METHODS = {
        "int init()", "int newNumber(int)", "boolean setLimb(int,int,int)", "int getLimb(int,int)", "int sizeOf(int)",
        "boolean release(int)", "int submit(int,int,int,int)", "int tick()", "int run(int)", "int jobState(int)", "int jobResult(int)",
        "long workLeft(int)", "boolean cancel(int)", "boolean forget(int)", "int freeCells()", "int freeBlock(int,int)",
        "int number(int,int)", "int count(int,int)",
    };
    private static final String[] CONSTANTS = {
        "NONE", "BAD_SIZE", "NO_HANDLE", "NO_ROOM", "BAD_OP", "BAD_HANDLE", "DIV_ZERO", "NO_JOB",
    };

    private static final Due DUE = new Due();
    private static final TreeSet<String> NAMES = names();

    private static TreeSet<String> names() {
        TreeSet<String> names = new TreeSet<>();
        for (String method : METHODS) {
            names.add(method.substring(method.indexOf(' ') + 1, method.indexOf('(')));
        }
        return names;
    }

    public static void main(String[] args) throws Exception {
        Class<?> face = LimbKernel.class;
        DUE.is("the class is public and final", Modifier.isPublic(face.getModifiers()) && Modifier.isFinal(face.getModifiers()), true);
        methods(face);
        constants(face);
        constructors(face);
        for (Class<?> inside : face.getDeclaredClasses()) {
            int modifiers = inside.getModifiers();
            DUE.is(inside + " is static", Modifier.isStatic(modifiers), true);
            DUE.is(inside + " can be seen from afar", Modifier.isPublic(modifiers) || Modifier.isProtected(modifiers), false);
            for (Method method : inside.getDeclaredMethods()) {
                DUE.is(inside + " has a method of the face's name " + method.getName(), NAMES.contains(method.getName()), false);
            }
            DUE.is("fields of " + inside + " over twenty", inside.getDeclaredFields().length > 20, false);
        }
        DUE.end();
    }

    private static void methods(Class<?> face) {
        TreeSet<String> want = new TreeSet<>(java.util.List.of(METHODS));
        for (Method method : face.getDeclaredMethods()) {
            if (Modifier.isPrivate(method.getModifiers())) {
                DUE.is("private " + method.getName() + " bears a public name", NAMES.contains(method.getName()), false);
                continue;
            }
            StringBuilder text = new StringBuilder(method.getReturnType() + " " + method.getName() + "(");
            for (int i = 0; i < method.getParameterCount(); i++) {
                text.append(i == 0 ? "" : ",").append(method.getParameterTypes()[i]);
            }
            DUE.is(text + ") is of the face", want.remove(text + ")") && Modifier.isPublic(method.getModifiers()), true);
        }
        DUE.is("methods missing " + want, want.size(), 0);
    }

    private static void constants(Class<?> face) throws Exception {
        for (int i = 0; i < CONSTANTS.length; i++) {
            Field field = face.getField(CONSTANTS[i]);
            DUE.is(CONSTANTS[i], field.getInt(null), -1 - i);
        }
        for (Field field : face.getDeclaredFields()) {
            int modifiers = field.getModifiers();
            boolean told = java.util.List.of(CONSTANTS).contains(field.getName());
            DUE.is(field + " is public", Modifier.isPublic(modifiers), told);
            DUE.is(field + " is private", Modifier.isPrivate(modifiers), !told);
            DUE.is(field + " is static and can change", Modifier.isStatic(modifiers) && !Modifier.isFinal(modifiers), false);
        }
    }

    private static void constructors(Class<?> face) {
        Constructor<?>[] all = face.getDeclaredConstructors();
        DUE.is("constructors", all.length, 1);
        DUE.is("the constructor's parameters", all[0].getParameterCount(), 4);
        DUE.is("the constructor is public", Modifier.isPublic(all[0].getModifiers()), true);
    }
}
