import java.lang.reflect.Constructor;
import java.lang.reflect.Executable;
import java.lang.reflect.Field;
import java.lang.reflect.Method;
import java.lang.reflect.Modifier;
import java.util.List;
import java.util.TreeSet;

/** 'The public face': its constants, its constructor, its methods, and nothing else that is not private. */
public final class FaceTest extends Checks {
    private static final String[] METHODS = {
        "public int type(int, int, int, int, int)", "public int strike(int, int, int)",
        "public int mark(int, int, int, int, int)", "public int undo(int, int)", "public int carry(int, int)",
        "public int all(int, int)", "public int state(int, int)", "public int lacks(int, int)", "public int slips()",
        "public int slip(int, int)", "public int part(int, int)", "public int left(int)", "public int bound(int)",
        "public int undone(int)", "public boolean later(int, int)", "public int length(int)",
        "public int text(int, int, int)", "public int signs(int)", "public int order(int, int)",
        "public int place(int, int)", "public int strikers(int, int)", "public int spans(int, int)",
        "public int history(int, int)", "public int asOf(int, int, int)", "public int unlike(int, int)",
        "public int cursor(int, int, int, int)", "public int where(int, int)", "public int status()",
    };
    private static final String[] CONSTANTS = {"public static final int NONE = -1", "public static final int EDGE = -2"};

    private static void sameRows(String what, TreeSet<String> got, String[] want) {
        TreeSet<String> more = new TreeSet<>(got);
        more.removeAll(List.of(want));
        TreeSet<String> missing = new TreeSet<>(List.of(want));
        missing.removeAll(got);
        due(FACE, what + " beside the document's: " + more, more.size(), 0);
        due(FACE, what + " that are missing: " + missing, missing.size(), 0);
    }

    private static String parameters(Executable one) {
        StringBuilder row = new StringBuilder("(");
        for (Class<?> type : one.getParameterTypes()) {
            row.append(row.length() == 1 ? "" : ", ").append(type.getName());
        }
        return row.append(')').toString();
    }

    private static String written(Method method) {
        return Modifier.toString(method.getModifiers()) + " " + method.getReturnType().getName() + " "
                + method.getName() + parameters(method);
    }

    /** "public final class ManyPens": of no other class, and of no interface. */
    private static void theClass() {
        Class<?> face = ManyPens.class;
        due(FACE, "public and final", face.getModifiers(), Modifier.PUBLIC | Modifier.FINAL);
        due(FACE, "no package", face.getPackageName().isEmpty(), true);
        due(FACE, "of no other class", face.getSuperclass() == Object.class, true);
        due(FACE, "of no interface", face.getInterfaces().length, 0);
    }

    private static void theMethods() {
        TreeSet<String> methods = new TreeSet<>();
        for (Method method : ManyPens.class.getDeclaredMethods()) {
            if (!Modifier.isPrivate(method.getModifiers())) {
                methods.add(written(method));
                due(FACE, method.getName() + " tells of nothing that it throws", method.getExceptionTypes().length, 0);
            }
        }
        sameRows("methods", methods, METHODS);
    }

    private static void theConstants() throws IllegalAccessException {
        TreeSet<String> constants = new TreeSet<>();
        for (Field field : ManyPens.class.getDeclaredFields()) {
            if (!Modifier.isPrivate(field.getModifiers())) {
                constants.add(Modifier.toString(field.getModifiers()) + " " + field.getType().getName() + " "
                        + field.getName() + " = " + (field.getType() == int.class ? field.getInt(null) : 0));
            }
        }
        sameRows("constants", constants, CONSTANTS);
    }

    private static void theConstructor() {
        TreeSet<String> constructors = new TreeSet<>();
        for (Constructor<?> one : ManyPens.class.getDeclaredConstructors()) {
            constructors.add(Modifier.toString(one.getModifiers()) + " ManyPens" + parameters(one));
        }
        sameRows("constructors", constructors, new String[] {"public ManyPens()"});
    }

    private static void theClassesInside() {
        for (Class<?> inside : ManyPens.class.getDeclaredClasses()) {
            int shown = inside.getModifiers() & (Modifier.PUBLIC | Modifier.PROTECTED);
            due(FACE, inside.getName() + " is private or package-visible", shown, 0);
        }
    }

    public static void main(String[] args) throws IllegalAccessException {
        theClass();
        theMethods();
        theConstants();
        theConstructor();
        theClassesInside();
        end();
    }
}
