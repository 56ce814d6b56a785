import java.io.IOException;
import java.lang.annotation.ElementType;
import java.lang.annotation.Retention;
import java.lang.annotation.RetentionPolicy;
import java.lang.annotation.Target;
import java.lang.reflect.InvocationTargetException;
import java.lang.reflect.Method;
import java.nio.file.Files;
import java.nio.file.Path;
import java.util.Arrays;
import java.util.Comparator;
import java.util.List;
import java.util.function.Consumer;
import java.util.function.IntConsumer;
import java.util.function.IntSupplier;

/**
 * What the tests of boundary cases have in common. Each test is a static method of its own, named after the
 * promise or the section and the case, and bears the sentence of the document to which it holds the class.
 */
abstract class Cases {
    static final int NONE = HearthCache.NONE;
    static final int REQUEST = HearthCache.REQUEST, FORWARD = HearthCache.FORWARD, ANSWER = HearthCache.ANSWER;
    static final int INVALID = HearthCache.INVALID, SHARED = HearthCache.SHARED, EXCLUSIVE = HearthCache.EXCLUSIVE;
    static final int MODIFIED = HearthCache.MODIFIED;
    static final int WAITS_READ = HearthCache.WAITS_READ, WAITS_WRITE = HearthCache.WAITS_WRITE;
    static final int STRICT = HearthCache.STRICT, BUFFERED = HearthCache.BUFFERED;
    static final int STORE = HearthCache.STORE, LOAD = HearthCache.LOAD, FENCE = HearthCache.FENCE;
    static final int ADD = HearthCache.ADD;

    static final int HOME = 4;
    /** What stateOf answers of a line that is LEAVING: it is in no place. */
    static final int LEAVING = 10;
    /** Numbers of counters. */
    static final int LOADS = 0, READS = 1, WRITES = 2, PUTS = 3, KILLS = 4, TAKEN = 5, STRIDES = 6;
    static final int WELL = 7, BROKEN = 8, OVERFLOWS = 9;

    private static final Path DOCUMENT = Path.of("../shared/DOC.md");

    /** The words of the document that a test is about. */
    @Retention(RetentionPolicy.RUNTIME)
    @Target(ElementType.METHOD)
    @interface Sentence {
        String value();
    }

    /** Runs each test of a class by itself; a test that throws, or checks nothing, has failed. */
    static void runAll(Class<?> suite) {
        String document = documentOrEmpty();
        List<Method> tests = Arrays.stream(suite.getDeclaredMethods())
                .filter(method -> method.isAnnotationPresent(Sentence.class))
                .sorted(Comparator.comparing(Method::getName)).toList();
        for (Method test : tests) {
            Check.beginTest(test.getName());
            String sentence = test.getAnnotation(Sentence.class).value();
            if (!document.isEmpty() && !document.contains(sentence)) {
                System.out.println("note: " + test.getName() + " is about words that the document does not have: "
                        + sentence);
            }
            int before = Check.checks();
            try {
                test.invoke(null);
            } catch (InvocationTargetException e) {
                Check.count(false, "threw " + e.getCause());
            } catch (IllegalAccessException | RuntimeException e) {
                Check.count(false, "could not be run: " + e);
            }
            if (Check.checks() == before) {
                Check.count(false, "checked nothing");
            }
        }
        Check.finish(suite.getSimpleName() + ", " + tests.size() + " tests");
    }

    private static String documentOrEmpty() {
        try {
            return Files.readString(DOCUMENT);
        } catch (IOException e) {
            return "";
        }
    }

    // ---- what is due

    static void is(String what, long got, long due) {
        Check.is(what, got, due);
    }

    static void is(String what, boolean got, boolean due) {
        Check.is(what, got, due);
    }

    static void outOfBounds(String what, Runnable call) {
        Check.outOfBounds(what, call);
    }

    static void badArgument(String what, Runnable call) {
        Check.badArgument(what, call);
    }

    static void badState(String what, Runnable call) {
        Check.badState(what, call);
    }

    /** There is nothing below 0. */
    static void noneBelow0(IntConsumer call) {
        outOfBounds("-1", () -> call.accept(-1));
        outOfBounds("the least int", () -> call.accept(Integer.MIN_VALUE));
    }

    /** There is nothing above the greatest one. */
    static void noneAbove(int greatest, IntConsumer call) {
        outOfBounds("" + (greatest + 1), () -> call.accept(greatest + 1));
        outOfBounds("the greatest int", () -> call.accept(Integer.MAX_VALUE));
    }

    static void tooSmallBelow(int least, IntConsumer call) {
        badArgument("" + (least - 1), () -> call.accept(least - 1));
        badArgument("the least int", () -> call.accept(Integer.MIN_VALUE));
    }

    static void tooLargeAbove(int greatest, IntConsumer call) {
        badArgument("" + (greatest + 1), () -> call.accept(greatest + 1));
        badArgument("the greatest int", () -> call.accept(Integer.MAX_VALUE));
    }

    static void states(String when, HearthCache x, int line, int... due) {
        for (int core = 0; core < 4; core++) {
            is(when + ": stateOf(" + core + ", " + line + ")", x.stateOf(core, line), due[core]);
        }
    }

    static void outcomesAre(HearthCache x, int model, int... due) {
        is("outcomes(" + model + ")", x.outcomes(model), due.length);
        is("outcomesAnew(" + model + ")", x.outcomesAnew(model), due.length);
        for (int i = 0; i < Math.min(due.length, x.outcomes(model)); i++) {
            is("outcome(" + model + ", " + i + ")", x.outcome(model, i), due[i]);
        }
        outOfBounds("outcome past the last", () -> x.outcome(model, due.length));
    }

    // ---- how tests begin

    /** Lets a core have the line with a value of its own: MODIFIED, all messages delivered. */
    static void own(HearthCache x, int core, int line, int value) {
        x.store(core, line, value);
        for (int i = 0; i < 5 && !x.drain(core); i++) {
            x.pump(20);
        }
    }

    /** Lets a core read the line, all messages delivered. */
    static int read(HearthCache x, int core, int line) {
        int value = x.load(core, line);
        for (int i = 0; i < 5 && value == NONE; i++) {
            x.pump(20);
            value = x.load(core, line);
        }
        return value;
    }

    /** Lets a core read lines one behind the other. */
    static void readAll(HearthCache x, int core, int... lines) {
        for (int line : lines) {
            read(x, core, line);
        }
    }

    /** Lets some cores read a line, one behind the other. */
    static void share(HearthCache x, int line, int... cores) {
        for (int core : cores) {
            read(x, core, line);
        }
    }

    /** Fills all places of a core; line 0 is the one used longest ago, then 5, 3 and 9; no stride is met. */
    static void fill(HearthCache x, int core) {
        readAll(x, core, 0, 5, 3, 9);
    }

    /** Sends the WRITE of a core for a line; its store waits in the buffer. */
    static void askToWrite(HearthCache x, int core, int line, int value) {
        x.store(core, line, value);
        x.drain(core);
    }

    static void deliver(HearthCache x, int of, int receiver, int times) {
        for (int i = 0; i < times; i++) {
            x.deliver(of, receiver);
        }
    }

    /** Lets the store to the line end in a transaction that has begun: asks until it ends. */
    static int endAll(HearthCache x, int core) {
        int ended = x.end(core);
        for (int i = 0; i < 5 && ended == NONE; i++) {
            x.pump(20);
            ended = x.end(core);
        }
        return ended;
    }

    // ---- calls that change nothing

    private static final int[] DRILLED = {3, 5, 12};

    /** A refused call in the midst of a run makes no difference to anything that comes behind it. */
    static void changesNothing(Class<?> due, Consumer<HearthCache> before, Consumer<HearthCache> refused) {
        HearthCache with = new HearthCache();
        HearthCache without = new HearthCache();
        before.accept(with);
        before.accept(without);
        Check.throwsJust("the refused call", due, () -> refused.accept(with));
        String got = drill(with);
        String wanted = drill(without);
        Check.count(got.equals(wanted), "after the refused call: " + got + ", without it: " + wanted);
    }

    /** Looks at all that can be seen, and uses up buffers, messages and transactions: about 200 calls. */
    private static String drill(HearthCache x) {
        StringBuilder told = new StringBuilder();
        look(told, x);
        for (int core = 0; core < 4; core++) {
            for (int line : DRILLED) {
                int of = core;
                tell(told, () -> x.load(of, line));
            }
        }
        for (int i = 0; i < 20; i++) {
            int core = i % 4;
            tell(told, () -> x.drain(core) ? 1 : 0);
            tell(told, () -> x.pump(20));
        }
        for (int i = 0; i < 12; i++) {
            int core = i % 4;
            tell(told, () -> x.end(core));
            tell(told, () -> x.pump(20));
        }
        for (int core = 0; core < 4; core++) {
            int of = core;
            tell(told, () -> x.begin(of));
        }
        look(told, x);
        tell(told, () -> x.outcome(STRICT, 0));
        tell(told, () -> x.outcomes(STRICT));
        tell(told, () -> x.outcomes(BUFFERED));
        tell(told, x::clear);
        return told.toString();
    }

    private static void look(StringBuilder told, HearthCache x) {
        for (int line : DRILLED) {
            told.append(x.home(line)).append(' ').append(x.owner(line)).append(' ').append(x.sharers(line));
            told.append(' ').append(x.waiting(line)).append(' ').append(x.truth(line));
            for (int core = 0; core < 4; core++) {
                told.append(' ').append(x.stateOf(core, line)).append(' ').append(x.valueIn(core, line));
            }
            told.append("; ");
        }
        for (int of = 0; of < 3; of++) {
            for (int receiver = 0; receiver < 5; receiver++) {
                told.append(x.queued(of, receiver)).append(' ');
            }
        }
        for (int which = 0; which < 10; which++) {
            told.append(x.counter(which)).append(' ');
        }
    }

    private static void tell(StringBuilder told, IntSupplier call) {
        try {
            told.append(call.getAsInt()).append(' ');
        } catch (RuntimeException e) {
            told.append(e.getClass().getSimpleName()).append(' ');
        }
    }
}
