import java.io.IOException;
import java.lang.management.ManagementFactory;
import java.lang.reflect.Constructor;
import java.lang.reflect.Executable;
import java.lang.reflect.Field;
import java.lang.reflect.Method;
import java.lang.reflect.Modifier;
import java.nio.file.Files;
import java.nio.file.Path;
import java.util.ArrayList;
import java.util.List;
import java.util.Set;
import java.util.TreeSet;
import java.util.regex.Matcher;
import java.util.regex.Pattern;

/** The rules of ../shared/LANGUAGE.md that a test can see, in the program's text, its classes and its room. */
public final class LanguageTest extends Checks {
    private static final int MOST_CLASSES = 12;
    private static final int MOST_FIELDS = 20;
    private static final int MOST_PARAMETERS = 7;
    private static final int MOST_LINES = 60;

    /** Of the classes that rule 4 lists, what may be called by the class's own name. */
    private static final Set<String> LIBRARY = Set.of(
            "Arrays.copyOf", "Arrays.copyOfRange", "Arrays.fill", "System.arraycopy", "List.of",
            "Math.max", "Math.min", "Math.abs", "Math.floorDiv", "Math.floorMod",
            "Integer.compare", "Integer.max", "Integer.min", "Integer.bitCount");

    private static final Set<Class<?>> CONSTANTS = Set.of(int.class, long.class, boolean.class, char.class,
            String.class, int[].class, long[].class, char[].class, byte[].class);

    /** 512 objects of this size still fit in a room of 7.3 million elements of 4 bytes. */
    private static final long MOST_BYTES_OF_AN_OBJECT = 56_000;
    private static final long MOST_BYTES_OF_A_CALL = 300;

    private static String source;

    /** The program's text without its comments, texts and characters. */
    private static String readSource() throws IOException {
        return Files.readString(Path.of("src/main/java/ManyPens.java"))
                .replaceAll("(?s)/\\*.*?\\*/", "").replaceAll("//[^\n]*", "")
                .replaceAll("\"[^\"\n]*\"", "\"\"").replaceAll("'[^'\n]*'", "' '");
    }

    private static int count(String pattern) {
        Matcher matcher = Pattern.compile(pattern).matcher(source);
        int found = 0;
        while (matcher.find()) {
            found++;
        }
        return found;
    }

    private static List<Class<?>> classes() {
        List<Class<?>> classes = new ArrayList<>(List.of(ManyPens.class.getDeclaredClasses()));
        classes.add(ManyPens.class);
        return classes;
    }

    /** Rule 1: "No private method bears the name of a public one." */
    private static void privateNames() {
        TreeSet<String> shown = new TreeSet<>();
        for (Method method : ManyPens.class.getMethods()) {
            shown.add(method.getName());
        }
        for (Class<?> one : classes()) {
            for (Method method : one.getDeclaredMethods()) {
                boolean inFace = one == ManyPens.class && Modifier.isPublic(method.getModifiers());
                due(LANGUAGE, "rule 1: " + one.getName() + "." + method.getName(),
                        !inFace && shown.contains(method.getName()), false);
            }
        }
    }

    /** Rule 2: static nested classes, none local, none without a name; rule 11: not too many. */
    private static void classesInside() {
        for (Class<?> inside : ManyPens.class.getDeclaredClasses()) {
            due(LANGUAGE, "rule 2: static " + inside.getName(), Modifier.isStatic(inside.getModifiers()), true);
            due(LANGUAGE, "rule 2: none inside " + inside.getName(), inside.getDeclaredClasses().length, 0);
        }
        due(LANGUAGE, "rule 2: all classes are members", count("\\b(class|record|enum|interface)\\b"), classes().size());
        due(LANGUAGE, "rule 2: no anonymous class", count("new \\w+\\([^;{}]*\\)\\s*\\{"), 0);
        due(LANGUAGE, "rule 11: so many classes", classes().size() <= MOST_CLASSES, true);
        due(LANGUAGE, "rule 2: no lambda", count("->"), 0);
        due(LANGUAGE, "rule 2: no method reference", count("::"), 0);
    }

    /** Rule 4: the library. */
    private static void library() {
        Matcher calls = Pattern.compile("\\b([A-Z][a-z]\\w*)\\s*\\.\\s*(\\w+)").matcher(source);
        while (calls.find()) {
            String call = calls.group(1) + "." + calls.group(2);
            due(LANGUAGE, "rule 4: " + call, LIBRARY.contains(call), true);
        }
        due(LANGUAGE, "rule 4: no class by its whole name", count("\\bjava\\.(?!util\\.(Arrays|ArrayList|List);)"), 0);
    }

    /** Rule 5: static fields. */
    private static void staticFields() {
        for (Class<?> one : classes()) {
            for (Field field : one.getDeclaredFields()) {
                if (Modifier.isStatic(field.getModifiers())) {
                    due(LANGUAGE, "rule 5: final " + field, Modifier.isFinal(field.getModifiers()), true);
                    due(LANGUAGE, "rule 5: a constant " + field, CONSTANTS.contains(field.getType()), true);
                }
            }
        }
        due(LANGUAGE, "rule 5: no static block", count("\\bstatic\\s*\\{"), 0);
    }

    /** Rules 3 and 6: words that do not stand there. */
    private static void words() {
        String[] banned = {"package", "throw", "throws", "try", "catch", "synchronized", "assert", "hashCode", "Object"};
        for (String word : banned) {
            due(LANGUAGE, "no " + word, count("\\b" + word + "\\b"), 0);
        }
    }

    /** Rule 11: "A method takes at most seven parameters", and a class has some twenty fields beside its constants. */
    private static void parametersAndFields() {
        for (Class<?> one : classes()) {
            List<Executable> all = new ArrayList<>(List.of(one.getDeclaredMethods()));
            all.addAll(List.<Constructor<?>>of(one.getDeclaredConstructors()));
            for (Executable method : all) {
                due(LANGUAGE, "rule 11: parameters of " + method, method.getParameterCount() <= MOST_PARAMETERS, true);
            }
            int fields = 0;
            for (Field field : one.getDeclaredFields()) {
                fields += Modifier.isStatic(field.getModifiers()) ? 0 : 1;
            }
            due(LANGUAGE, "rule 11: fields of " + one.getName(), fields <= MOST_FIELDS, true);
        }
    }

    /** Rule 11: "Methods stay short (some sixty lines)": from a head to the brace that stands below it. */
    private static void methodLengths() {
        Matcher methods = Pattern.compile("(?ms)^( +)[\\w\\[\\] ]+\\([^;{}]*\\) \\{$.*?^\\1\\}$").matcher(source);
        int found = 0;
        while (methods.find()) {
            String text = methods.group();
            int lines = text.split("\n").length;
            due(LANGUAGE, "rule 11: lines of " + text.split("\n")[0].trim(), lines <= MOST_LINES, true);
            found++;
        }
        due(LANGUAGE, "methods were found", found > 28, true);
    }

    private static long bytes() {
        return ((com.sun.management.ThreadMXBean) ManagementFactory.getThreadMXBean()).getCurrentThreadAllocatedBytes();
    }

    private static int eachCallOnce(ManyPens x, int round) {
        int sum = x.type(0, round % 3, 1, 2, 3) + x.strike(0, 0, 12) + x.mark(0, 0, 2, 1, 3) + x.undo(0, round);
        sum += x.carry(round, 1) + x.all(0, 2) + x.state(0, round) + x.lacks(1, round) + x.slips() + x.slip(0, 3);
        sum += x.part(0, 0) + x.left(0) + x.bound(0) + x.undone(0) + (x.later(0, 1) ? 1 : 0) + x.length(0);
        sum += x.text(0, 0, 2) + x.signs(0) + x.order(0, 0) + x.place(0, 0) + x.strikers(0, 0) + x.spans(0, 1);
        sum += x.history(0, round) + x.asOf(0, round, 0) + x.unlike(0, 1) + x.cursor(0, 0, 0, 1) + x.where(0, 0);
        return sum + x.status();
    }

    /** Rule 12: "What a run makes is counted ... keep it small". */
    private static void room() {
        int rounds = MOST_CALLS / 28;
        eachCallOnce(new ManyPens(), 0);
        bytes();
        long before = bytes();
        ManyPens x = new ManyPens();
        long made = bytes();
        for (int round = 0; round < rounds; round++) {
            eachCallOnce(x, round);
        }
        long used = bytes();
        long object = made - before;
        long calls = used - made;
        due(LANGUAGE, "rule 12: an object takes " + object + " bytes", object <= MOST_BYTES_OF_AN_OBJECT, true);
        due(LANGUAGE, "rule 12: calls take " + calls + " bytes", calls <= MOST_BYTES_OF_A_CALL * rounds * 28, true);
    }

    /** Rule 13: "the same calls always give the same answers", also of two objects that are used by turns. */
    private static void sameAnswers() {
        ManyPens one = new ManyPens();
        ManyPens other = new ManyPens();
        for (int round = 0; round < MOST_CALLS / 28; round++) {
            due(LANGUAGE, "rule 13: round " + round, eachCallOnce(one, round), eachCallOnce(other, round));
        }
    }

    public static void main(String[] args) throws IOException {
        source = readSource();
        privateNames();
        classesInside();
        library();
        staticFields();
        words();
        parametersAndFields();
        methodLengths();
        room();
        sameAnswers();
        end();
    }
}
