import java.util.ArrayList;
import java.util.List;
import java.util.Random;

/** Runs HearthCache and the two models side by side, by seeded numbers, and compares all answers. */
public final class ModelTest {
    private interface Call {
        Object answer();
    }

    private static final int RUNS = 4000;
    private static final int CALLS = 300;
    private static final int PROGRAMS = 3000;

    public static void main(String[] args) {
        for (int run = 0; run < RUNS; run++) {
            runCaches(run);
        }
        for (int run = 0; run < PROGRAMS; run++) {
            runProgram(run);
        }
        Check.finish("ModelTest");
    }

    private static void compare(String what, Call call, String due) {
        String got;
        try {
            got = "" + call.answer();
        } catch (RuntimeException e) {
            got = e.getClass() == IndexOutOfBoundsException.class ? "B"
                    : e.getClass() == IllegalArgumentException.class ? "A"
                    : e.getClass() == IllegalStateException.class ? "S" : e.toString();
        }
        Check.count(got.equals(due), what + " answered " + got + ", due is " + due);
    }

    // ---- caches

    private static void runCaches(int seed) {
        Random random = new Random(seed);
        HearthCache x = new HearthCache();
        CacheModel model = new CacheModel();
        int lines = new int[] {2, 3, 5, 7, 16}[seed % 5];
        int deliveries = new int[] {30, 45, 60, 75}[seed / 5 % 4];
        for (int i = 0; i < CALLS; i++) {
            String when = "run " + seed + ", call " + i + ": ";
            int sort = random.nextInt(100);
            if (sort < 3) {
                wrongCall(when, random, x, model);
            } else if (sort < 12) {
                look(when, random, lines, x, model);
            } else if (sort < deliveries) {
                deliverSome(when, random, x, model);
            } else {
                coreCall(when, random, lines, x, model);
            }
        }
        compareAll("run " + seed + ", at the end: ", x, model);
    }

    private static void coreCall(String when, Random random, int lines, HearthCache x, CacheModel model) {
        int core = random.nextInt(4);
        int line = random.nextInt(lines);
        int value = random.nextInt(20) == 0 ? 990 + random.nextInt(10) : random.nextInt(1000);
        int by = 1 + random.nextInt(9);
        String at = core + ", " + line;
        switch (random.nextInt(14)) {
            case 0, 1, 2, 3 -> compare(when + "load " + at, () -> x.load(core, line), model.load(core, line));
            case 4, 5, 6 -> compare(when + "store " + at, () -> x.store(core, line, value),
                    model.store(core, line, value));
            case 7, 8, 9 -> compare(when + "drain " + core, () -> x.drain(core), model.drain(core));
            case 10 -> compare(when + "fence " + core, () -> x.fence(core), model.fence(core));
            case 11 -> compare(when + "add " + at, () -> x.add(core, line, by), model.add(core, line, by));
            case 12 -> compare(when + "begin " + core, () -> x.begin(core), model.begin(core));
            default -> compare(when + "end " + core, () -> x.end(core), model.end(core));
        }
    }

    private static void deliverSome(String when, Random random, HearthCache x, CacheModel model) {
        if (random.nextInt(8) == 0) {
            int rounds = 1 + random.nextInt(random.nextBoolean() ? 3 : 20);
            compare(when + "pump " + rounds, () -> x.pump(rounds), model.pump(rounds));
            return;
        }
        int of = random.nextInt(3);
        int receiver = of == 0 ? 4 : of == 1 || random.nextBoolean() ? random.nextInt(4) : 4;
        compare(when + "deliver " + of + ", " + receiver, () -> x.deliver(of, receiver), model.deliver(of, receiver));
    }

    private static void look(String when, Random random, int lines, HearthCache x, CacheModel model) {
        int core = random.nextInt(4);
        int line = random.nextInt(lines);
        int which = random.nextInt(10);
        switch (random.nextInt(9)) {
            case 0 -> compare(when + "stateOf", () -> x.stateOf(core, line), model.stateOf(core, line));
            case 1 -> compare(when + "valueIn", () -> x.valueIn(core, line), model.valueIn(core, line));
            case 2 -> compare(when + "home", () -> x.home(line), model.home(line));
            case 3 -> compare(when + "owner", () -> x.owner(line), model.owner(line));
            case 4 -> compare(when + "sharers", () -> x.sharers(line), model.sharers(line));
            case 5 -> compare(when + "waiting", () -> x.waiting(line), model.waiting(line));
            case 6 -> compare(when + "truth", () -> x.truth(line), model.truth(line));
            case 7 -> compare(when + "isCoherent", x::isCoherent, model.isCoherent());
            default -> compare(when + "counter", () -> x.counter(which), model.counter(which));
        }
    }

    private static int odd(Random random) {
        int[] numbers = {-2, -1, 0, 1, 2, 3, 4, 5, 9, 10, 15, 16, 20, 21, 999, 1000,
            Integer.MIN_VALUE, Integer.MAX_VALUE};
        return numbers[random.nextInt(numbers.length)];
    }

    private static void wrongCall(String when, Random random, HearthCache x, CacheModel model) {
        int a = odd(random);
        int b = odd(random);
        int c = odd(random);
        String with = " with " + a + ", " + b + ", " + c;
        switch (random.nextInt(16)) {
            case 0 -> compare(when + "load" + with, () -> x.load(a, b), model.load(a, b));
            case 1 -> compare(when + "store" + with, () -> x.store(a, b, c), model.store(a, b, c));
            case 2 -> compare(when + "drain" + with, () -> x.drain(a), model.drain(a));
            case 3 -> compare(when + "fence" + with, () -> x.fence(a), model.fence(a));
            case 4 -> compare(when + "add" + with, () -> x.add(a, b, c), model.add(a, b, c));
            case 5 -> compare(when + "begin" + with, () -> x.begin(a), model.begin(a));
            case 6 -> compare(when + "end" + with, () -> x.end(a), model.end(a));
            case 7 -> compare(when + "deliver" + with, () -> x.deliver(a, b), model.deliver(a, b));
            case 8 -> compare(when + "pump" + with, () -> x.pump(a), model.pump(a));
            case 9 -> compare(when + "queued" + with, () -> x.queued(a, b), model.queued(a, b));
            case 10 -> compare(when + "stateOf" + with, () -> x.stateOf(a, b), model.stateOf(a, b));
            case 11 -> compare(when + "valueIn" + with, () -> x.valueIn(a, b), model.valueIn(a, b));
            case 12 -> compare(when + "home" + with, () -> x.home(a), model.home(a));
            case 13 -> compare(when + "truth" + with, () -> x.truth(a), model.truth(a));
            case 14 -> compare(when + "waiting" + with, () -> x.waiting(a), model.waiting(a));
            default -> compare(when + "counter" + with, () -> x.counter(a), model.counter(a));
        }
    }

    private static void compareAll(String when, HearthCache x, CacheModel model) {
        for (int i = 0; i < 16; i++) {
            int line = i;
            String of = " of " + line;
            compare(when + "home" + of, () -> x.home(line), model.home(line));
            compare(when + "owner" + of, () -> x.owner(line), model.owner(line));
            compare(when + "sharers" + of, () -> x.sharers(line), model.sharers(line));
            compare(when + "waiting" + of, () -> x.waiting(line), model.waiting(line));
            compare(when + "truth" + of, () -> x.truth(line), model.truth(line));
            for (int k = 0; k < 4; k++) {
                int core = k;
                compare(when + "stateOf" + of, () -> x.stateOf(core, line), model.stateOf(core, line));
                compare(when + "valueIn" + of, () -> x.valueIn(core, line), model.valueIn(core, line));
            }
        }
    }

    // ---- programs

    private static void runProgram(int seed) {
        Random random = new Random(seed);
        HearthCache x = new HearthCache();
        List<List<ProgramModel.Step>> threads = List.of(new ArrayList<>(), new ArrayList<>(), new ArrayList<>());
        int places = 1 + random.nextInt(3);
        int most = 1 + random.nextInt(9);
        int steps = random.nextInt(4) == 0 ? random.nextInt(6) : 6;
        for (int i = 0; i < steps; i++) {
            int thread = random.nextInt(3);
            int what = random.nextInt(8) == 0 ? HearthCache.FENCE : new int[] {0, 0, 1, 1, 3}[random.nextInt(5)];
            ProgramModel.Step step = new ProgramModel.Step(what, random.nextInt(places), 1 + random.nextInt(most));
            if (threads.get(thread).size() < 4) {
                threads.get(thread).add(step);
                Check.is("program " + seed + ": step", x.step(thread, what, step.place(), step.value()),
                        threads.get(thread).size());
            }
        }
        List<Integer> strict = ProgramModel.outcomes(threads, false);
        List<Integer> buffered = ProgramModel.outcomes(threads, true);
        String when = "program " + seed + " " + threads + ": ";
        compareOutcomes(when, x, HearthCache.STRICT, strict);
        compareOutcomes(when, x, HearthCache.BUFFERED, buffered);
        Check.is(when + "areAlike", x.areAlike(), strict.equals(buffered));
    }

    private static void compareOutcomes(String when, HearthCache x, int model, List<Integer> due) {
        Check.is(when + "outcomes " + model, x.outcomes(model), due.size());
        Check.is(when + "outcomesAnew " + model, x.outcomesAnew(model), due.size());
        for (int i = 0; i < Math.min(due.size(), x.outcomes(model)); i++) {
            Check.is(when + "outcome " + model + ", " + i, x.outcome(model, i), due.get(i));
        }
        Check.outOfBounds(when + "outcome past the last", () -> x.outcome(model, due.size()));
    }
}
