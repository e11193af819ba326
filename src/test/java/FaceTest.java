import java.lang.reflect.Constructor;
import java.lang.reflect.Executable;
import java.lang.reflect.Field;
import java.lang.reflect.Method;
import java.lang.reflect.Modifier;
import java.util.ArrayList;
import java.util.Collections;
import java.util.List;

/** The public face as the document writes it, and rules 1, 5 and 11 of LANGUAGE.md as the class shows them. */
public final class FaceTest {
    private static final Class<?> FACE = LockMuseum.class;

    public static void main(String[] args) throws IllegalAccessException {
        classLine();
        members();
        promisedForms();
        privateNames();
        statics(FACE);
        nested();
        Check.finish();
    }

    private static void classLine() {
        Check.under("The public face: the class");
        Check.same("the class", Modifier.toString(FACE.getModifiers()) + " class " + FACE.getName(),
            Document.face().split(" \\{")[0]);
        Check.same("its package", FACE.getPackageName(), "");
        Check.same("what it extends", FACE.getSuperclass().getName(), "java.lang.Object");
        Check.due("interfaces that it implements", FACE.getInterfaces().length, 0);
    }

    /** All that isn't private, no more and no less than the document's lines. */
    private static void members() throws IllegalAccessException {
        List<String> seen = new ArrayList<>();
        for (Field f : FACE.getDeclaredFields()) {
            if (!Modifier.isPrivate(f.getModifiers())) {
                boolean constant = Modifier.isStatic(f.getModifiers()) && f.getType() == int.class;
                seen.add(Modifier.toString(f.getModifiers()) + " " + f.getType() + " " + f.getName()
                    + (constant ? " = " + f.getInt(null) : ""));
            }
        }
        for (Constructor<?> c : FACE.getDeclaredConstructors()) {
            seen.add(Modifier.toString(c.getModifiers()) + " " + form(c));
        }
        for (Method m : FACE.getDeclaredMethods()) {
            if (!Modifier.isPrivate(m.getModifiers())) {
                seen.add(Modifier.toString(m.getModifiers()) + " " + m.getReturnType() + " " + form(m));
            }
        }
        Collections.sort(seen);
        Check.under("The public face: its members");
        Check.same("what isn't private", String.join("\n", seen), String.join("\n", promised()));
        Check.due("how many members the document tells", promised().size(), 15);
    }

    /** The document's lines without the names of parameters, which the compiled class doesn't keep. */
    private static List<String> promised() {
        String face = Document.face();
        String inner = face.substring(face.indexOf('{') + 1, face.lastIndexOf('}'));
        List<String> lines = new ArrayList<>();
        for (String line : inner.trim().split(";\\s*")) {
            lines.add(withoutNames(line));
        }
        Collections.sort(lines);
        return lines;
    }

    private static String withoutNames(String line) {
        return line.replaceAll("int \\w+(?=[,)])", "int");
    }

    /** Each promise tells its call's form once more; it is the same as in the face. */
    private static void promisedForms() {
        List<String> lines = promised();
        for (int promise = 1; promise <= 14; promise++) {
            Check.under("Promise " + promise);
            String form = "public " + withoutNames(Document.form(promise));
            Check.due(form + " stands in the face (1) or not (0)", lines.contains(form) ? 1 : 0, 1);
        }
    }

    private static String form(Executable call) {
        List<String> parameters = names(call.getParameterTypes());
        List<String> thrown = names(call.getExceptionTypes());
        return call.getName() + "(" + String.join(", ", parameters) + ")"
            + (thrown.isEmpty() ? "" : " throws " + String.join(", ", thrown));
    }

    private static List<String> names(Class<?>[] types) {
        List<String> names = new ArrayList<>();
        for (Class<?> type : types) {
            names.add(type.getSimpleName());
        }
        return names;
    }

    private static void privateNames() {
        Check.under("LANGUAGE.md, rule 1: \"No private method bears the name of a public one.\"");
        List<String> open = new ArrayList<>();
        for (Method m : FACE.getMethods()) {
            open.add(m.getName());
        }
        for (Method m : FACE.getDeclaredMethods()) {
            if (Modifier.isPrivate(m.getModifiers())) {
                Check.due("private " + m.getName() + " bears a public name", open.contains(m.getName()) ? 1 : 0, 0);
            }
        }
    }

    private static void nested() {
        Class<?>[] classes = FACE.getDeclaredClasses();
        for (Class<?> one : classes) {
            Check.under("LANGUAGE.md, rule 1: classes inside");
            Check.due(one.getName() + " is static and not public", one.getModifiers()
                & (Modifier.STATIC | Modifier.PUBLIC | Modifier.PROTECTED), Modifier.STATIC);
            statics(one);
        }
        Check.under("LANGUAGE.md, rule 11: \"the file has at most some twelve classes\"");
        Check.due("at most twelve classes", classes.length < 12 ? 1 : 0, 1);
    }

    private static void statics(Class<?> owner) {
        Check.under("LANGUAGE.md, rule 5: \"Static fields are final\"");
        int own = 0;
        for (Field f : owner.getDeclaredFields()) {
            boolean shared = Modifier.isStatic(f.getModifiers());
            boolean loose = shared && !Modifier.isFinal(f.getModifiers());
            Check.due("static " + f.getName() + " is not final", loose ? 1 : 0, 0);
            own += shared ? 0 : 1;
        }
        Check.under("LANGUAGE.md, rule 11: \"a class some twenty fields beside its constants\"");
        Check.due(owner.getName() + " has at most twenty fields", own <= 20 ? 1 : 0, 1);
    }
}
