import java.io.ByteArrayOutputStream;
import java.io.IOException;
import java.lang.reflect.Field;
import java.lang.reflect.InvocationTargetException;
import java.lang.reflect.Method;
import java.lang.reflect.Modifier;
import java.net.URL;
import java.net.URLClassLoader;
import java.nio.charset.StandardCharsets;
import java.nio.file.Files;
import java.nio.file.Path;
import java.util.ArrayList;
import java.util.Arrays;
import java.util.LinkedHashMap;
import java.util.List;
import java.util.Map;
import java.util.Set;
import java.util.TreeSet;
import java.util.concurrent.Callable;
import java.util.regex.Matcher;
import java.util.regex.Pattern;
import java.util.stream.Stream;
import javax.tools.JavaCompiler;
import javax.tools.ToolProvider;

/** What README.md says is so: its examples, its tables, its commands, and the names of the tests. */
public final class ReadmeTest {
    private static final Path README = Path.of("README.md");
    private static final Path TESTS = Path.of("src/test/java");
    private static final Pattern ANSWERED = Pattern.compile("(x\\..*);\\s*// -> (throws \\w+|-?\\w+)(:.*)?");
    private static final Pattern CALL = Pattern.compile("`(int|boolean) (\\w+)\\(([a-z, ]*)\\)`");
    private static final Pattern NAMED_TEST = Pattern.compile("`(\\w+Test)`");

    /** A part of the page between fences. */
    private record Block(String language, int firstLine, List<String> lines) {
    }

    /** What the page says of an argument. */
    private record Range(int least, int greatest, String otherwise) {
    }

    public static void main(String[] args) throws Exception {
        List<String> page = Files.readAllLines(README);
        List<Block> blocks = blocksOf(page);
        Path work = Files.createTempDirectory("readme");
        try {
            examplesAnswerAsItSays(blocks, work);
            commandsRunAsTheyAreWritten(blocks);
        } finally {
            deleteAll(work);
        }
        constantsAreThose(page);
        callsAreThose(page);
        argumentsAreThose(page);
        statesAreThose(page);
        allTestsAreNamed(String.join("\n", page));
        Check.finish("ReadmeTest");
    }

    private static List<Block> blocksOf(List<String> page) {
        List<Block> blocks = new ArrayList<>();
        Block open = null;
        for (int i = 0; i < page.size(); i++) {
            String line = page.get(i);
            if (line.startsWith("```") && open == null) {
                open = new Block(line.substring(3), i + 2, new ArrayList<>());
            } else if (line.startsWith("```")) {
                blocks.add(open);
                open = null;
            } else if (open != null) {
                open.lines().add(line);
            }
        }
        Check.count(open == null, "a fence is not closed");
        return blocks;
    }

    // ---- examples

    private static void examplesAnswerAsItSays(List<Block> blocks, Path work) throws Exception {
        StringBuilder methods = new StringBuilder();
        List<String> names = new ArrayList<>();
        int told = 0;
        for (Block block : blocks) {
            if (!block.language().equals("java")) {
                continue;
            }
            String name = "fromLine" + block.firstLine();
            names.add(name);
            methods.append("    public static void ").append(name).append("() throws Exception {\n");
            for (int i = 0; i < block.lines().size(); i++) {
                String line = block.lines().get(i);
                Matcher answered = ANSWERED.matcher(line.strip());
                if (answered.matches()) {
                    told++;
                    line = "ReadmeTest.due(" + (block.firstLine() + i) + ", () -> " + answered.group(1) + ", \""
                            + answered.group(2) + "\");";
                } else {
                    Check.count(!line.contains("->"), "line " + (block.firstLine() + i) + " is not understood");
                }
                methods.append(line).append('\n');
            }
            methods.append("    }\n");
        }
        Check.count(told > 50, "the examples tell just " + told + " answers");
        Path file = work.resolve("ReadmeExamples.java");
        Files.writeString(file, "public final class ReadmeExamples {\n" + methods + "}\n");
        if (compiles(file, work)) {
            runExamples(work, names);
        }
    }

    private static boolean compiles(Path file, Path work) {
        JavaCompiler compiler = ToolProvider.getSystemJavaCompiler();
        ByteArrayOutputStream said = new ByteArrayOutputStream();
        boolean compiles = compiler != null && compiler.run(null, said, said, "-cp",
                System.getProperty("java.class.path"), "-d", work.toString(), file.toString()) == 0;
        Check.count(compiles, "the examples do not compile: " + said);
        return compiles;
    }

    private static void runExamples(Path work, List<String> names) throws Exception {
        URL[] there = {work.toUri().toURL()};
        try (URLClassLoader loader = new URLClassLoader(there, ReadmeTest.class.getClassLoader())) {
            Class<?> examples = loader.loadClass("ReadmeExamples");
            for (String name : names) {
                try {
                    examples.getMethod(name).invoke(null);
                } catch (InvocationTargetException e) {
                    Check.count(false, "the example " + name + " threw " + e.getCause());
                }
            }
        }
    }

    /** Called by the examples: what a call of the page answers, and what the page says. */
    public static void due(int line, Callable<Object> call, String due) throws Exception {
        String got;
        try {
            got = "" + call.call();
        } catch (RuntimeException e) {
            got = "throws " + e.getClass().getSimpleName();
        }
        String wanted = due;
        if (due.matches("[A-Z_]+")) {
            wanted = "" + HearthCache.class.getField(due).getInt(null);
        }
        Check.count(got.equals(wanted), "line " + line + " answered " + got + ", the page says " + due);
    }

    // ---- commands

    /** .ci/run itself is left out: it runs this test. */
    private static void commandsRunAsTheyAreWritten(List<Block> blocks) throws Exception {
        for (int i = 0; i < blocks.size(); i++) {
            Block block = blocks.get(i);
            if (!block.language().equals("sh")) {
                continue;
            }
            String commands = String.join("\n", block.lines()) + "\n";
            if (commands.contains(".ci/run")) {
                Check.count(Files.isExecutable(Path.of(".ci/run")), ".ci/run is not there, or can not be run");
                continue;
            }
            Process process = new ProcessBuilder("bash", "-e", "-c", commands)
                    .redirectError(ProcessBuilder.Redirect.INHERIT).start();
            process.getOutputStream().close();
            String said = new String(process.getInputStream().readAllBytes(), StandardCharsets.UTF_8);
            Check.count(process.waitFor() == 0, "the commands of line " + block.firstLine() + " said: " + said);
            boolean tellsOutput = i + 1 < blocks.size() && blocks.get(i + 1).language().equals("text");
            if (tellsOutput) {
                String due = String.join("\n", blocks.get(i + 1).lines());
                Check.count(said.strip().equals(due), "the commands of line " + block.firstLine() + " said: " + said);
            }
        }
    }

    private static void deleteAll(Path directory) throws IOException {
        try (Stream<Path> files = Files.walk(directory)) {
            for (Path file : files.sorted((one, other) -> other.compareTo(one)).toList()) {
                Files.delete(file);
            }
        }
    }

    // ---- tables

    /** The cells of the rows of the table that has this head. */
    private static List<String[]> table(List<String> page, String head) {
        List<String[]> rows = new ArrayList<>();
        int at = page.indexOf(head);
        Check.count(at >= 0, "there is no table " + head);
        for (int i = at + 2; at >= 0 && i < page.size() && page.get(i).startsWith("|"); i++) {
            String row = page.get(i);
            rows.add(Arrays.stream(row.substring(1, row.length() - 1).split("\\|")).map(String::strip)
                    .toArray(String[]::new));
        }
        return rows;
    }

    private static void constantsAreThose(List<String> page) throws IllegalAccessException {
        Set<String> told = new TreeSet<>();
        for (String[] row : table(page, "| Constant | Value | It is |")) {
            told.add(row[0] + " " + row[1]);
        }
        Set<String> due = new TreeSet<>();
        for (Field field : HearthCache.class.getFields()) {
            due.add("`" + field.getName() + "` " + field.getInt(null));
        }
        Check.count(told.equals(due), "the page has the constants " + told + ", the class " + due);
    }

    private static List<String[]> callRows(List<String> page) {
        return table(page, "| Call | It does, and answers | `IllegalStateException` if |");
    }

    private static void callsAreThose(List<String> page) {
        Set<String> told = new TreeSet<>();
        for (String[] row : callRows(page)) {
            Matcher call = CALL.matcher(row[0]);
            Check.count(call.matches(), row[0] + " is not understood");
            if (call.matches()) {
                told.add(call.group(1) + " " + call.group(2) + " " + argumentsOf(call.group(3)).size());
            }
        }
        Set<String> due = new TreeSet<>();
        for (Method method : HearthCache.class.getDeclaredMethods()) {
            if (Modifier.isPublic(method.getModifiers())) {
                due.add(method.getReturnType() + " " + method.getName() + " " + method.getParameterCount());
            }
        }
        Check.count(told.equals(due), "the page has the calls " + told + ", the class " + due);
    }

    private static List<String> argumentsOf(String written) {
        return written.isEmpty() ? List.of() : List.of(written.split(", "));
    }

    /** Each argument of each call, one below and above its range and at its ends, the others in their ranges. */
    private static void argumentsAreThose(List<String> page) throws Exception {
        Map<String, Range> ranges = rangesOf(page);
        Set<String> used = new TreeSet<>();
        for (String[] row : callRows(page)) {
            Matcher call = CALL.matcher(row[0]);
            if (!call.matches()) {
                continue;
            }
            String name = call.group(2);
            List<String> arguments = argumentsOf(call.group(3));
            Object[] values = new Object[arguments.size()];
            Set<String> thrown = new TreeSet<>();
            for (int i = 0; i < values.length; i++) {
                Range range = rangeOf(ranges, name, arguments.get(i), used);
                values[i] = range.least();
                thrown.add(range.otherwise());
            }
            for (int i = 0; i < values.length; i++) {
                argumentIsThat(name, arguments.get(i), values, i, rangeOf(ranges, name, arguments.get(i), used));
            }
            if (!row[2].equals("never")) {
                thrown.add("IllegalStateException");
            }
            Set<String> declared = new TreeSet<>();
            for (Class<?> exception : methodOf(name, values.length).getExceptionTypes()) {
                declared.add(exception.getSimpleName());
            }
            Check.count(thrown.equals(declared), name + " throws " + declared + ", the page says " + thrown);
        }
        Check.count(used.equals(ranges.keySet()), "of " + ranges.keySet() + " just these are arguments: " + used);
    }

    private static Map<String, Range> rangesOf(List<String> page) {
        Map<String, Range> ranges = new LinkedHashMap<>();
        for (String[] row : table(page, "| Argument | Least | Greatest | It is | Otherwise |")) {
            // A new object's program has one outcome: outcomes(model) - 1 is 0.
            int greatest = row[2].equals("`outcomes(model) - 1`") ? 0 : Integer.parseInt(row[2]);
            ranges.put(row[0].replace("`", ""), new Range(Integer.parseInt(row[1]), greatest, row[4].replace("`", "")));
        }
        return ranges;
    }

    private static Range rangeOf(Map<String, Range> ranges, String call, String argument, Set<String> used) {
        String own = argument + " of " + call;
        String name = ranges.containsKey(own) ? own : argument;
        Check.count(ranges.containsKey(name), "the page does not tell the range of " + own);
        used.add(name);
        return ranges.getOrDefault(name, new Range(0, 0, ""));
    }

    private static void argumentIsThat(String call, String argument, Object[] values, int at, Range range)
            throws Exception {
        String what = argument + " of " + call + ": ";
        for (int wrong : new int[] {Integer.MIN_VALUE, range.least() - 1, range.greatest() + 1, Integer.MAX_VALUE}) {
            String thrown = thrownBy(call, values, at, wrong);
            Check.count(thrown.equals(range.otherwise()), what + wrong + " threw " + thrown);
        }
        for (int right : new int[] {range.least(), range.greatest()}) {
            String thrown = thrownBy(call, values, at, right);
            boolean isIn = thrown.isEmpty() || thrown.equals("IllegalStateException");
            Check.count(isIn, what + right + " threw " + thrown);
        }
    }

    private static String thrownBy(String call, Object[] values, int at, int value) throws Exception {
        Object[] changed = values.clone();
        changed[at] = value;
        return thrownBy(new HearthCache(), call, changed);
    }

    private static String thrownBy(HearthCache x, String call, Object... values) throws Exception {
        try {
            methodOf(call, values.length).invoke(x, values);
            return "";
        } catch (InvocationTargetException e) {
            return e.getCause().getClass().getSimpleName();
        }
    }

    private static Method methodOf(String call, int arguments) throws NoSuchMethodException {
        Class<?>[] types = new Class<?>[arguments];
        Arrays.fill(types, int.class);
        return HearthCache.class.getMethod(call, types);
    }

    // ---- states

    /** Each call that throws IllegalStateException, in each state that the page tells, and the rows in its words. */
    private static void statesAreThose(List<String> page) throws Exception {
        Map<String, String> told = new LinkedHashMap<>();
        for (String[] row : callRows(page)) {
            Matcher call = CALL.matcher(row[0]);
            if (call.matches() && !row[2].equals("never")) {
                told.put(call.group(2), row[2]);
            }
        }
        Map<String, String> due = new LinkedHashMap<>();
        due.put("load", "the core has a transaction with 4 lines, and this is not one of them");
        due.put("store", "the buffer has 4 stores; or the transaction has 4 lines, and this is not one of them");
        due.put("add", "the buffer is not empty, or the core has a transaction");
        due.put("begin", "the core has a transaction, or its buffer is not empty");
        due.put("end", "the core has no transaction");
        due.put("deliver", "the queue is empty");
        due.put("step", "the thread has 4 steps, or all threads have 6 together");
        Check.count(told.equals(due), "the page tells the states " + told + ", tested are " + due);

        HearthCache stored = new HearthCache();
        stored.store(0, 0, 1);
        refuses(stored, "add", 0, 0, 1);
        refuses(stored, "begin", 0);
        refuses(stored, "end", 0);
        refuses(stored, "deliver", 0, 4);
        admits(stored, "store", 0, 1, 1);
        admits(stored, "store", 0, 1, 1);
        admits(stored, "store", 0, 1, 1);
        refuses(stored, "store", 0, 1, 1);
        admits(stored, "load", 0, 5);

        HearthCache begun = new HearthCache();
        begun.begin(0);
        refuses(begun, "add", 0, 0, 1);
        refuses(begun, "begin", 0);
        for (int line = 0; line < 4; line++) {
            admits(begun, "load", 0, 5);
            admits(begun, "store", 0, line, 1);
        }
        refuses(begun, "load", 0, 5);
        refuses(begun, "store", 0, 5, 1);
        admits(begun, "load", 0, 3);
        admits(begun, "store", 0, 3, 1);
        admits(begun, "end", 0);

        HearthCache stepped = new HearthCache();
        for (int i = 0; i < 4; i++) {
            admits(stepped, "step", 0, HearthCache.LOAD, 0, 0);
        }
        refuses(stepped, "step", 0, HearthCache.LOAD, 0, 0);
        admits(stepped, "step", 1, HearthCache.LOAD, 0, 0);
        admits(stepped, "step", 2, HearthCache.LOAD, 0, 0);
        refuses(stepped, "step", 2, HearthCache.LOAD, 0, 0);
    }

    private static void refuses(HearthCache x, String call, Object... values) throws Exception {
        String thrown = thrownBy(x, call, values);
        Check.count(thrown.equals("IllegalStateException"), call + Arrays.toString(values) + " threw " + thrown);
    }

    private static void admits(HearthCache x, String call, Object... values) throws Exception {
        String thrown = thrownBy(x, call, values);
        Check.count(thrown.isEmpty(), call + Arrays.toString(values) + " threw " + thrown);
    }

    // ---- names

    private static void allTestsAreNamed(String page) throws IOException {
        Set<String> named = new TreeSet<>();
        for (Matcher name = NAMED_TEST.matcher(page); name.find();) {
            named.add(name.group(1));
        }
        Set<String> due = new TreeSet<>();
        try (Stream<Path> files = Files.list(TESTS)) {
            for (Path file : files.toList()) {
                String name = file.getFileName().toString().replace(".java", "");
                if (name.endsWith("Test")) {
                    due.add(name);
                }
            }
        }
        Check.count(named.equals(due), "the page names the tests " + named + ", there are " + due);
        for (String file : List.of("PromiseTest", "FaceTest", "Cases", "CacheModel", "ProgramModel")) {
            Check.count(Files.exists(TESTS.resolve(file + ".java")), file + ", of which the page speaks, is not there");
        }
    }
}
