import java.lang.reflect.Constructor;
import java.lang.reflect.Field;
import java.lang.reflect.Method;
import java.lang.reflect.Modifier;
import java.util.ArrayList;
import java.util.Collections;
import java.util.List;

/** The public face, and rules 1 and 5 of LANGUAGE.md as far as the compiled class shows them. */
public final class FaceTest {
    private static final String ARGUMENT = " throws IllegalArgumentException";
    private static final String STATE = ARGUMENT + " IllegalStateException";
    private static final String INDEX = " throws IndexOutOfBoundsException";
    private static final String[] METHODS = {
        "about(int int) int" + ARGUMENT, "change(int int int int int) void" + ARGUMENT,
        "exhibit(int int) void" + ARGUMENT, "judge(int) int" + ARGUMENT, "leave(int) void" + STATE, "mend() void",
        "register(int int) int" + ARGUMENT + " IndexOutOfBoundsException", "run(int int) int" + ARGUMENT,
        "states() int", "step(int) int" + STATE, "trail(int) int" + INDEX, "want(int) void" + STATE,
        "word(int) int" + INDEX,
    };

    public static void main(String[] args) {
        Class<?> face = LockMuseum.class;
        Check.due("the class is public and final", face.getModifiers() & (Modifier.PUBLIC | Modifier.FINAL),
            Modifier.PUBLIC | Modifier.FINAL);
        methods(face);
        fields(face);
        Constructor<?>[] constructors = face.getDeclaredConstructors();
        Check.due("constructors", constructors.length, 1);
        Check.due("parameters of the constructor", constructors[0].getParameterCount(), 0);
        for (Class<?> nested : face.getDeclaredClasses()) {
            Check.due(nested.getName() + " is static and not public", nested.getModifiers()
                & (Modifier.STATIC | Modifier.PUBLIC | Modifier.PROTECTED), Modifier.STATIC);
            statics(nested);
        }
        Check.due("NONE", LockMuseum.NONE, -1);
        Check.finish();
    }

    private static void methods(Class<?> face) {
        List<String> seen = new ArrayList<>();
        for (Method m : face.getDeclaredMethods()) {
            if (!Modifier.isPrivate(m.getModifiers())) {
                seen.add(form(m));
            } else {
                for (String open : METHODS) {
                    Check.due("private " + m.getName() + " bears a public name",
                        open.startsWith(m.getName() + "(") ? 1 : 0, 0);
                }
            }
        }
        Collections.sort(seen);
        Check.same("methods that are not private", seen.toString(), List.of(METHODS).toString());
    }

    private static String form(Method m) {
        String thrown = m.getExceptionTypes().length == 0 ? "" : " throws " + names(m.getExceptionTypes());
        return m.getName() + "(" + names(m.getParameterTypes()) + ") " + m.getReturnType().getName() + thrown;
    }

    private static String names(Class<?>[] types) {
        List<String> names = new ArrayList<>();
        for (Class<?> type : types) {
            names.add(type.getSimpleName());
        }
        return String.join(" ", names);
    }

    private static void fields(Class<?> face) {
        int open = 0;
        for (Field f : face.getDeclaredFields()) {
            open += Modifier.isPrivate(f.getModifiers()) ? 0 : 1;
        }
        Check.due("fields that are not private", open, 1);
        statics(face);
    }

    private static void statics(Class<?> owner) {
        for (Field f : owner.getDeclaredFields()) {
            boolean loose = Modifier.isStatic(f.getModifiers()) && !Modifier.isFinal(f.getModifiers());
            Check.due("static " + f.getName() + " is not final", loose ? 1 : 0, 0);
        }
    }
}
