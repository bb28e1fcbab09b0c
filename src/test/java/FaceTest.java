import java.lang.management.ManagementFactory;
import java.lang.reflect.Constructor;
import java.lang.reflect.Field;
import java.lang.reflect.Method;
import java.lang.reflect.Modifier;
import java.nio.file.Files;
import java.nio.file.Path;
import java.util.List;
import java.util.TreeSet;

/** The public face as the document writes it, rules of LANGUAGE.md that a test can see, and the room that calls take. */
public final class FaceTest {
    private static final String[] FACE = {
        "int type(int, int, int, int, int)", "int strike(int, int, int)", "int mark(int, int, int, int, int)",
        "int undo(int, int)", "int carry(int, int)", "int all(int, int)", "int state(int, int)",
        "int lacks(int, int)", "int slips()", "int slip(int, int)", "int part(int, int)", "int left(int)",
        "int bound(int)", "int undone(int)", "boolean later(int, int)", "int length(int)",
        "int text(int, int, int)", "int signs(int)", "int order(int, int)", "int place(int, int)",
        "int strikers(int, int)", "int spans(int, int)", "int history(int, int)", "int asOf(int, int, int)",
        "int unlike(int, int)", "int cursor(int, int, int, int)", "int where(int, int)", "int status()",
    };

    /** 512 objects of this size still fit in a room of 7.3 million elements of 4 bytes. */
    private static final long MOST_BYTES_OF_AN_OBJECT = 56_000;
    private static final long MOST_BYTES_OF_A_CALL = 300;

    private static int wrong = 0;

    private static void due(String what, boolean holds) {
        if (!holds) {
            wrong++;
            System.out.println("not as due: " + what);
        }
    }

    private static String written(Method method) {
        StringBuilder line = new StringBuilder();
        line.append(method.getReturnType().getName()).append(' ').append(method.getName()).append('(');
        for (int i = 0; i < method.getParameterCount(); i++) {
            line.append(i == 0 ? "" : ", ").append(method.getParameterTypes()[i].getName());
        }
        return line.append(')').toString();
    }

    private static void face() {
        due("the class is public and final", ManyPens.class.getModifiers() == (Modifier.PUBLIC | Modifier.FINAL));
        TreeSet<String> methods = new TreeSet<>();
        TreeSet<String> names = new TreeSet<>();
        for (Method method : ManyPens.class.getDeclaredMethods()) {
            if (!Modifier.isPrivate(method.getModifiers())) {
                methods.add(written(method));
                names.add(method.getName());
            }
        }
        due("the methods: " + methods, methods.equals(new TreeSet<>(List.of(FACE))));
        for (Method method : ManyPens.class.getDeclaredMethods()) {
            boolean isPrivate = Modifier.isPrivate(method.getModifiers());
            due("private " + method.getName(), !isPrivate || !names.contains(method.getName()));
        }
        TreeSet<String> constants = new TreeSet<>();
        for (Field field : ManyPens.class.getDeclaredFields()) {
            if (!Modifier.isPrivate(field.getModifiers())) {
                constants.add(field.getName());
            }
        }
        due("the constants: " + constants, constants.equals(new TreeSet<>(List.of("NONE", "EDGE"))));
        Constructor<?>[] constructors = ManyPens.class.getDeclaredConstructors();
        due("one constructor", constructors.length == 1 && constructors[0].getParameterCount() == 0
                && Modifier.isPublic(constructors[0].getModifiers()));
        for (Class<?> inside : ManyPens.class.getDeclaredClasses()) {
            due("static " + inside.getName(), Modifier.isStatic(inside.getModifiers()));
            for (Method method : inside.getDeclaredMethods()) {
                due("a method named " + method.getName() + " in " + inside.getName(), !names.contains(method.getName()));
            }
        }
    }

    private static void words() throws Exception {
        String source = Files.readString(Path.of("src/main/java/ManyPens.java"))
                .replaceAll("(?s)/\\*.*?\\*/", "").replaceAll("//[^\n]*", "");
        for (String word : new String[] {"throw", "throws", "try", "catch", "synchronized", "assert", "package"}) {
            due("no " + word, !source.matches("(?s).*\\b" + word + "\\b.*"));
        }
        due("no lambda", !source.contains("->"));
        due("no method reference", !source.contains("::"));
        for (String line : source.split("\n")) {
            due(line, !line.startsWith("import") || line.equals("import java.util.Arrays;"));
        }
    }

    private static long bytes() {
        return ((com.sun.management.ThreadMXBean) ManagementFactory.getThreadMXBean()).getCurrentThreadAllocatedBytes();
    }

    private static int runAll(ManyPens x, int round) {
        int sum = x.type(0, round % 3, 1, 2, 3) + x.strike(0, 0, 12) + x.mark(0, 0, 2, 1, 3) + x.undo(0, round);
        sum += x.carry(round, 1) + x.all(0, 2) + x.state(0, round) + x.lacks(1, round) + x.slips() + x.slip(0, 3);
        sum += x.part(0, 0) + x.left(0) + x.bound(0) + x.undone(0) + (x.later(0, 1) ? 1 : 0) + x.length(0);
        sum += x.text(0, 0, 2) + x.signs(0) + x.order(0, 0) + x.place(0, 0) + x.strikers(0, 0) + x.spans(0, 1);
        sum += x.history(0, round) + x.asOf(0, round, 0) + x.unlike(0, 1) + x.cursor(0, 0, 0, 1) + x.where(0, 0);
        return sum + x.status();
    }

    private static void room() {
        runAll(new ManyPens(), 0);
        bytes();
        long before = bytes();
        ManyPens x = new ManyPens();
        long made = bytes();
        int rounds = 512 / FACE.length;
        for (int round = 0; round < rounds; round++) {
            runAll(x, round);
        }
        long used = bytes();
        due("an object takes " + (made - before) + " bytes", made - before <= MOST_BYTES_OF_AN_OBJECT);
        due("calls take " + (used - made) + " bytes", used - made <= MOST_BYTES_OF_A_CALL * rounds * FACE.length);
        System.out.println("an object takes " + (made - before) + " bytes, 504 calls " + (used - made));
    }

    public static void main(String[] args) throws Exception {
        face();
        words();
        room();
        System.out.println(wrong == 0 ? "the face is as due" : wrong + " things are not as due");
        if (wrong != 0) {
            System.exit(1);
        }
    }
}
