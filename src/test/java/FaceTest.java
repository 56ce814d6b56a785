import java.io.IOException;
import java.lang.reflect.Constructor;
import java.lang.reflect.Field;
import java.lang.reflect.Method;
import java.lang.reflect.Modifier;
import java.nio.file.Files;
import java.nio.file.Path;
import java.util.ArrayList;
import java.util.List;
import java.util.Random;
import java.util.Set;
import java.util.TreeSet;
import java.util.regex.Matcher;
import java.util.regex.Pattern;

/** The class has the document's face and no more, and its file keeps to what can be seen of LANGUAGE.md. */
public final class FaceTest {
    private static final String BOUNDS = "IndexOutOfBoundsException";
    private static final String ARGUMENT = "IllegalArgumentException";
    private static final String STATE = "IllegalStateException";
    private static final Path SOURCE = Path.of("src/main/java/HearthCache.java");

    public static void main(String[] args) throws IOException {
        checkMembers();
        checkConstants();
        checkSource(Files.readString(SOURCE));
        longRunThrowsNothingElse();
        Check.finish("FaceTest");
    }

    private static void checkMembers() {
        Set<String> due = new TreeSet<>(List.of(
                "int load(2) " + BOUNDS + " " + STATE,
                "int store(3) " + BOUNDS + " " + ARGUMENT + " " + STATE,
                "boolean drain(1) " + BOUNDS,
                "boolean fence(1) " + BOUNDS,
                "int add(3) " + BOUNDS + " " + ARGUMENT + " " + STATE,
                "int begin(1) " + BOUNDS + " " + STATE,
                "int end(1) " + BOUNDS + " " + STATE,
                "int deliver(2) " + BOUNDS + " " + ARGUMENT + " " + STATE,
                "int pump(1) " + ARGUMENT,
                "int queued(2) " + BOUNDS + " " + ARGUMENT,
                "int stateOf(2) " + BOUNDS,
                "int valueIn(2) " + BOUNDS,
                "int home(1) " + BOUNDS,
                "int owner(1) " + BOUNDS,
                "int sharers(1) " + BOUNDS,
                "int waiting(1) " + BOUNDS,
                "int truth(1) " + BOUNDS,
                "boolean isCoherent(0)",
                "int counter(1) " + ARGUMENT,
                "int clear(0)",
                "int step(4) " + BOUNDS + " " + ARGUMENT + " " + STATE,
                "int outcomes(1) " + ARGUMENT,
                "int outcome(2) " + BOUNDS + " " + ARGUMENT,
                "int outcomesAnew(1) " + ARGUMENT,
                "boolean areAlike(0)"));
        Set<String> got = new TreeSet<>();
        Set<String> privateNames = new TreeSet<>();
        for (Method method : HearthCache.class.getDeclaredMethods()) {
            if (Modifier.isPrivate(method.getModifiers())) {
                privateNames.add(method.getName());
                continue;
            }
            Check.count(method.getModifiers() == Modifier.PUBLIC, method + " is just public");
            StringBuilder face = new StringBuilder();
            face.append(method.getReturnType()).append(" ").append(method.getName());
            face.append("(").append(method.getParameterCount()).append(")");
            for (Class<?> thrown : method.getExceptionTypes()) {
                face.append(" ").append(thrown.getSimpleName());
            }
            got.add(face.toString());
            for (Class<?> parameter : method.getParameterTypes()) {
                Check.count(parameter == int.class, method + " takes just ints");
            }
        }
        Check.count(got.equals(due), "the methods are " + got + ", due are " + due);
        for (String face : due) {
            String name = face.substring(face.indexOf(' ') + 1, face.indexOf('('));
            Check.count(!privateNames.contains(name), "a private method bears the name " + name);
        }
        Constructor<?>[] constructors = HearthCache.class.getDeclaredConstructors();
        Check.is("constructors", constructors.length, 1);
        Check.count(Modifier.isPublic(constructors[0].getModifiers()), "the constructor is public");
        Check.is("its parameters", constructors[0].getParameterCount(), 0);
        Check.is("exceptions of the constructor", constructors[0].getExceptionTypes().length, 0);
        int face = Modifier.PUBLIC | Modifier.FINAL;
        Check.count(HearthCache.class.getModifiers() == face, "the class is public and final");
        Check.count(HearthCache.class.getSuperclass() == Object.class, "the class extends nothing");
        Check.is("interfaces", HearthCache.class.getInterfaces().length, 0);
    }

    private static void checkConstants() {
        Set<String> due = new TreeSet<>(List.of("NONE -1", "REQUEST 0", "FORWARD 1", "ANSWER 2", "INVALID 0",
                "SHARED 1"));
        due.addAll(List.of("EXCLUSIVE 2", "MODIFIED 3", "WAITS_READ 4", "WAITS_WRITE 5", "STRICT 0", "BUFFERED 1",
                "STORE 0", "LOAD 1", "FENCE 2", "ADD 3"));
        Set<String> got = new TreeSet<>();
        for (Field field : HearthCache.class.getDeclaredFields()) {
            if (Modifier.isPrivate(field.getModifiers())) {
                continue;
            }
            int constant = Modifier.PUBLIC | Modifier.STATIC | Modifier.FINAL;
            Check.count(field.getModifiers() == constant && field.getType() == int.class, field + " is a constant");
            try {
                got.add(field.getName() + " " + field.getInt(null));
            } catch (IllegalAccessException | RuntimeException e) {
                got.add(field.getName() + " " + e);
            }
        }
        Check.count(got.equals(due), "the constants are " + got + ", due are " + due);
    }

    private static void checkSource(String source) {
        String code = source.replaceAll("//[^\n]*", "").replaceAll("\"[^\"\n]*\"", "\"\"");
        for (String word : List.of("import", "package", "synchronized", "assert", "finally", "try", "catch",
                "System", "Thread", "Object", "Long", "Random", "static\\s*\\{", "->", "::", "@", "var",
                "float", "double", "volatile", "native", "equals", "hashCode", "toString", "null\\s*\\+")) {
            String whole = Character.isLetter(word.charAt(0)) ? "\\b" + word + "(?![A-Za-z0-9_])" : word;
            Check.count(!Pattern.compile(whole).matcher(code).find(), "the source has " + word);
        }
        Check.count(source.chars().allMatch(c -> c < 128), "the source has signs 0 to 127 alone");
        Matcher thrown = Pattern.compile("\\bthrow new (\\w+)\\(").matcher(code);
        while (thrown.find()) {
            Check.count(Set.of(BOUNDS, ARGUMENT, STATE).contains(thrown.group(1)), "throws " + thrown.group(1));
        }
        checkMethodLengths(source);
        int classes = 0;
        for (Matcher m = Pattern.compile("\\bclass \\w+ (extends |implements )?\\{?").matcher(code); m.find();) {
            classes++;
        }
        Check.count(classes <= 12, classes + " classes are too many");
    }

    private static void checkMethodLengths(String source) {
        List<String> lines = new ArrayList<>(source.lines().toList());
        int start = -1;
        for (int i = 0; i < lines.size(); i++) {
            String line = lines.get(i);
            boolean opens = line.matches(" {4,8}[a-zA-Z].*\\(.*(\\{|,)") || line.matches(" {4,8}[a-zA-Z].*\\([^;]*\\)");
            if (opens && !line.contains(" class ")) {
                start = i;
            } else if (start >= 0 && line.matches(" {4,8}\\}")) {
                Check.count(i - start < 60, "the method at line " + (start + 1) + " is long");
                start = -1;
            }
        }
    }

    /** Past the 512th call answers are free, but still no call may throw by itself. */
    private static void longRunThrowsNothingElse() {
        Random random = new Random(5);
        HearthCache x = new HearthCache();
        for (int i = 0; i < 200000; i++) {
            int a = random.nextInt(6) - 1;
            int b = random.nextInt(random.nextInt(20) == 0 ? 18 : 7) - 1;
            int c = random.nextInt(12) - 1;
            int sort = random.nextInt(27);
            String thrown = "";
            try {
                anyCall(x, sort, a, b, c);
            } catch (RuntimeException e) {
                thrown = e.getStackTrace()[0].getClassName().startsWith("HearthCache")
                        && Set.of(BOUNDS, ARGUMENT, STATE).contains(e.getClass().getSimpleName()) ? "" : "" + e;
            }
            Check.count(thrown.isEmpty(), "call " + i + " of sort " + sort + " threw " + thrown);
        }
    }

    private static void anyCall(HearthCache x, int sort, int a, int b, int c) {
        switch (sort) {
            case 0 -> x.load(a, b);
            case 1, 2 -> x.store(a, b, c);
            case 3, 4, 5 -> x.drain(a);
            case 6 -> x.fence(a);
            case 7 -> x.add(a, b, c);
            case 8 -> x.begin(a);
            case 9 -> x.end(a);
            case 10, 11, 12, 13, 14 -> x.deliver(b, a);
            case 15 -> x.pump(a);
            case 16 -> x.queued(b, a);
            case 17 -> x.stateOf(a, b);
            case 18 -> x.valueIn(a, b);
            case 19 -> x.truth(b);
            case 20 -> x.counter(c);
            case 21 -> x.clear();
            case 22, 23 -> x.step(a, b, c, b);
            case 24 -> x.outcomes(a);
            case 25 -> x.outcomesAnew(a);
            default -> x.outcome(a, c);
        }
    }
}
