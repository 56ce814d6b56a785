import java.io.IOException;
import java.nio.file.Files;
import java.nio.file.Path;

/** The sentences of the document that tell of no boundary, but of what goes on inside: each in a test of its own. */
public final class SentencesTest extends Cases {
    private static final Path SOURCE = Path.of("src/main/java/HearthCache.java");

    public static void main(String[] args) {
        runAll(SentencesTest.class);
    }

    // ---- what it is, the public face

    @Sentence("messages of three classes on their way, states while one waits, few pointers that overflow, buffers of stores, fences, atomic additions, transactions that clash, evictions that race with requests, strides that are learnt, counters; and small programs of which all outcomes are told, by two models")
    static void whatItIsInOneRun() {
        HearthCache x = new HearthCache();
        x.load(0, 2);
        is("a state while one waits", x.stateOf(0, 2), WAITS_READ);
        is("a message on its way", x.queued(REQUEST, HOME), 1);
        share(x, 2, 0, 1, 2);
        is("few pointers that overflow", x.sharers(2), 15);
        is("a buffer of stores", x.store(1, 2, 30), 1);
        is("a fence", x.fence(1), false);
        own(x, 1, 2, 40);
        is("the second store", x.drain(1), true);
        is("a fence behind the stores", x.fence(1), true);
        is("an atomic addition", x.add(1, 2, 5), 40);
        x.begin(1);
        x.store(1, 2, 50);
        x.load(3, 2);
        x.pump(20);
        is("a transaction that clashes", x.end(1), 0);
        own(x, 0, 5, 60);
        readAll(x, 0, 3, 9, 12, 14);
        is("an eviction", x.counter(PUTS) > 0, true);
        is("counters", x.counter(KILLS), 3);
        x.step(0, LOAD, 0, 0);
        x.step(1, ADD, 0, 0);
        outcomesAre(x, STRICT, 0, 10);
        outcomesAre(x, BUFFERED, 0, 10);
        is("agreed", x.isCoherent(), true);
    }

    @Sentence("Ahead of the calls `load`, `store`, `drain`, `fence`, `add`, `begin`, `end` the interface says: ---- cores.")
    static void constantsTheInterfaceSaysCores() throws IOException {
        standUnder("---- cores", "---- messages", "int load", "int store", "boolean drain", "boolean fence", "int add",
                "int begin", "int end");
    }

    @Sentence("Ahead of the calls `deliver`, `pump`, `queued` the interface says: ---- messages.")
    static void constantsTheInterfaceSaysMessages() throws IOException {
        standUnder("---- messages", "---- what there is", "int deliver", "int pump", "int queued");
    }

    @Sentence("Ahead of the calls `stateOf`, `valueIn`, `home`, `owner`, `sharers`, `waiting`, `truth`, `isCoherent`, `counter` the interface says: ---- what there is.")
    static void constantsTheInterfaceSaysWhatThereIs() throws IOException {
        standUnder("---- what there is", "---- programs", "int stateOf", "int valueIn", "int home", "int owner",
                "int sharers", "int waiting", "int truth", "boolean isCoherent", "int counter");
    }

    @Sentence("Ahead of the calls `clear`, `step`, `outcomes`, `outcome`, `outcomesAnew`, `areAlike` the interface says: ---- programs.")
    static void constantsTheInterfaceSaysPrograms() throws IOException {
        standUnder("---- programs", "---- arguments", "int clear", "int step", "int outcomes", "int outcome",
                "int outcomesAnew", "boolean areAlike");
    }

    private static void standUnder(String head, String next, String... calls) throws IOException {
        String source = Files.readString(SOURCE);
        int from = source.indexOf("// " + head);
        int to = source.indexOf("// " + next);
        Check.count(from >= 0 && from < to, "the source has no " + head + " ahead of " + next);
        String part = from >= 0 && from < to ? source.substring(from, to) : "";
        int at = 0;
        for (String call : calls) {
            int found = part.indexOf("    public " + call + "(");
            Check.count(found > at, call + " does not stand under " + head + ", or not in its order");
            at = found;
        }
        is("no other calls under " + head, part.split("    public ", -1).length - 1, calls.length);
    }

    // ---- cores, lines, messages

    @Sentence("The caller lets cores load and store, and delivers messages one by one, in whatever order of queues.")
    static void termsNothingIsDeliveredByItself() {
        HearthCache x = new HearthCache();
        x.load(0, 3);
        for (int i = 0; i < 20; i++) {
            is("load again", x.load(0, 3), NONE);
        }
        is("the READ is still on its way", x.queued(REQUEST, HOME), 1);
        is("no DATA", x.queued(ANSWER, 0), 0);
    }

    @Sentence("delivers messages one by one, in whatever order of queues")
    static void termsQueuesAreDeliveredInWhateverOrder() {
        HearthCache x = new HearthCache();
        for (int core = 0; core < 4; core++) {
            x.load(core, 3 + 2 * core);
        }
        deliver(x, REQUEST, HOME, 4);
        for (int core : new int[] {2, 0, 3, 1}) {
            is("DATA for core " + core, x.deliver(ANSWER, core), 3 + 2 * core);
            is("core " + core, x.load(core, 3 + 2 * core), 0);
        }
    }

    @Sentence("Messages are of the classes REQUEST, FORWARD and ANSWER")
    static void termsEachMessageIsInAQueueOfItsClass() {
        HearthCache x = new HearthCache();
        fill(x, 0);
        x.load(0, 12);
        is("PUT and READ are REQUESTs", x.queued(REQUEST, HOME), 2);
        deliver(x, REQUEST, HOME, 2);
        is("DONE and DATA are ANSWERs", x.queued(ANSWER, 0), 2);
        x.pump(20);
        x.load(1, 5);
        x.add(2, 3, 1);
        is("READ and WRITE are REQUESTs", x.queued(REQUEST, HOME), 2);
        deliver(x, REQUEST, HOME, 2);
        is("FETCH and TAKE are FORWARDs", x.queued(FORWARD, 0), 2);
        deliver(x, FORWARD, 0, 2);
        is("what a core answers is an ANSWER", x.queued(ANSWER, HOME), 2);
        x.pump(20);
        x.add(0, 5, 1);
        x.deliver(REQUEST, HOME);
        is("KILL is a FORWARD", x.queued(FORWARD, 1), 1);
        x.deliver(FORWARD, 1);
        is("its answer is an ANSWER", x.queued(ANSWER, HOME), 1);
    }

    @Sentence("To deliver is to take the first message of a queue, and do what is told for it.")
    static void termsToDeliverTakesOneMessage() {
        HearthCache x = new HearthCache();
        x.load(0, 3);
        x.load(1, 7);
        x.deliver(REQUEST, HOME);
        is("one is taken", x.queued(REQUEST, HOME), 1);
        is("it is done", x.owner(3), 0);
        is("the other one is not", x.owner(7), NONE);
    }

    // ---- the home

    @Sentence("READ of a core: with an owner other than it, FETCH is sent to the owner, and the line is busy; when its ANSWER has come, the home's value is the one that is in it, the owner is no owner, it and the core are the sharers, and the core gets DATA, SHARED.")
    static void homeAReadOfAnOwnedLineStepByStep() {
        HearthCache x = new HearthCache();
        own(x, 2, 9, 77);
        is("READ is sent", x.load(1, 9), NONE);
        is("the home gets it", x.deliver(REQUEST, HOME), 9);
        is("FETCH", x.deliver(FORWARD, 2), 9);
        is("still busy", x.waiting(9), 1);
        is("the home's value before", x.home(9), 0);
        is("ANSWER", x.deliver(ANSWER, HOME), 9);
        is("not busy", x.waiting(9), 0);
        is("the home's value", x.home(9), 77);
        is("no owner", x.owner(9), NONE);
        is("both are sharers", x.sharers(9), 6);
        is("DATA", x.deliver(ANSWER, 1), 9);
        is("SHARED", x.stateOf(1, 9), SHARED);
        is("its value", x.load(1, 9), 77);
    }

    @Sentence("Without an owner (or if it is itself): if there are no sharers, the core is the owner, and gets DATA, EXCLUSIVE; otherwise it is a sharer, too, and gets DATA, SHARED.")
    static void homeReadsWithoutAnOwner() {
        HearthCache x = new HearthCache();
        own(x, 2, 9, 77);
        readAll(x, 2, 0, 5, 3, 12);
        is("put back", x.owner(9), NONE);
        is("the home has the value", x.home(9), 77);
        is("the first reader", read(x, 3, 9), 77);
        is("is the owner", x.owner(9), 3);
        is("EXCLUSIVE", x.stateOf(3, 9), EXCLUSIVE);
        share(x, 9, 0);
        is("the third reader", read(x, 1, 9), 77);
        is("is a sharer, too", x.stateOf(1, 9), SHARED);
    }

    @Sentence("Then the core is the owner, there are no sharers, and it gets DATA, MODIFIED.")
    static void homeAWriteStepByStep() {
        HearthCache x = new HearthCache();
        own(x, 1, 9, 77);
        read(x, 2, 9);
        x.store(3, 9, 5);
        is("WRITE is sent", x.drain(3), false);
        x.deliver(REQUEST, HOME);
        is("KILL for the first", x.deliver(FORWARD, 1), 9);
        x.deliver(ANSWER, HOME);
        is("one ANSWER is not enough", x.waiting(9), 1);
        is("no owner until then", x.owner(9), NONE);
        is("KILL for the second", x.deliver(FORWARD, 2), 9);
        x.deliver(ANSWER, HOME);
        is("the owner", x.owner(9), 3);
        is("no sharers", x.sharers(9), 0);
        x.deliver(ANSWER, 3);
        is("MODIFIED", x.stateOf(3, 9), MODIFIED);
        is("the home's value came with it", x.valueIn(3, 9), 77);
        is("and the store is done", x.drain(3), true);
        is("there", x.valueIn(3, 9), 5);
    }

    @Sentence("PUT of a core, with a value: if the core is the owner, the value becomes the home's, and there is no owner; in any case the core gets DONE.")
    static void homeAPutStepByStep() {
        HearthCache x = new HearthCache();
        own(x, 0, 1, 33);
        readAll(x, 0, 5, 3, 9);
        x.load(0, 12);
        is("LEAVING", x.stateOf(0, 1), LEAVING);
        is("the owner until the PUT has come", x.owner(1), 0);
        is("PUT", x.deliver(REQUEST, HOME), 1);
        is("the home's value", x.home(1), 33);
        is("no owner", x.owner(1), NONE);
        is("LEAVING until DONE", x.stateOf(0, 1), LEAVING);
        is("DONE", x.deliver(ANSWER, 0), 1);
        is("gone", x.stateOf(0, 1), INVALID);
    }

    // ---- caches

    @Sentence("A place is empty, or has a line that is SHARED, EXCLUSIVE or MODIFIED with a value, or that WAITS for DATA: to be read, or to be written.")
    static void cachesAPlaceIsOneOfThese() {
        HearthCache x = new HearthCache();
        is("empty", x.stateOf(0, 3), INVALID);
        x.load(0, 3);
        is("WAITS to be read", x.stateOf(0, 3), WAITS_READ);
        x.pump(20);
        is("EXCLUSIVE", x.stateOf(0, 3), EXCLUSIVE);
        is("with a value", x.valueIn(0, 3), 0);
        own(x, 0, 3, 8);
        is("MODIFIED", x.stateOf(0, 3), MODIFIED);
        is("with a value", x.valueIn(0, 3), 8);
        read(x, 1, 3);
        is("SHARED", x.stateOf(0, 3), SHARED);
        is("with a value", x.valueIn(0, 3), 8);
        x.add(0, 3, 1);
        is("WAITS to be written", x.stateOf(0, 3), WAITS_WRITE);
        is("without a value", x.valueIn(0, 3), NONE);
    }

    @Sentence("Then the place WAITS for the line, and READ or WRITE is sent.")
    static void cachesToAskSendsReadOrWrite() {
        HearthCache x = new HearthCache();
        x.load(0, 3);
        is("to be read", x.stateOf(0, 3), WAITS_READ);
        is("READ", x.counter(READS), 1);
        is("no WRITE", x.counter(WRITES), 0);
        x.add(1, 5, 1);
        is("to be written", x.stateOf(1, 5), WAITS_WRITE);
        is("no READ more", x.counter(READS), 1);
        is("WRITE", x.counter(WRITES), 1);
        is("READ is the first", x.deliver(REQUEST, HOME), 3);
        is("WRITE is the second", x.deliver(REQUEST, HOME), 5);
    }

    @Sentence("if it WAITS to be read, that is remembered; ANSWER without a value is sent in any case")
    static void cachesAKillIsRememberedAndAnsweredWithoutAValue() {
        HearthCache x = new HearthCache();
        own(x, 1, 3, 6);
        share(x, 3, 2);
        x.load(0, 3);
        x.deliver(REQUEST, HOME);
        x.add(1, 3, 1);
        x.deliver(REQUEST, HOME);
        is("KILL", x.deliver(FORWARD, 0), 3);
        is("it waits on", x.stateOf(0, 3), WAITS_READ);
        is("ANSWER", x.deliver(ANSWER, HOME), 3);
        is("without a value", x.home(3), 6);
        x.deliver(ANSWER, 0);
        is("remembered", x.stateOf(0, 3), INVALID);
    }

    // ---- loads, stores, strides

    @Sentence("the line is asked for, to be read, and the load has to be made again")
    static void loadsStoresALoadAsksToRead() {
        HearthCache x = new HearthCache();
        is("made again", x.load(2, 7), NONE);
        is("to be read", x.stateOf(2, 7), WAITS_READ);
        x.pump(20);
        is("made again", x.load(2, 7), 0);
        is("one load gave a value", x.counter(LOADS), 1);
    }

    @Sentence("is asked for as well, to be read, but only if a place is empty")
    static void stridesAskToRead() {
        HearthCache x = new HearthCache();
        x.load(0, 1);
        x.load(0, 4);
        x.load(0, 7);
        is("asked for as well", x.stateOf(0, 10), WAITS_READ);
        is("four READs", x.counter(READS), 4);
        is("one by strides", x.counter(STRIDES), 1);
        for (int line : new int[] {1, 4, 7, 10}) {
            is("by and by", x.deliver(REQUEST, HOME), line);
        }
        is("the owner", x.owner(10), 0);
    }

    // ---- transactions

    @Sentence("To end it: if it is broken, it ends so, all its stores are gone. Otherwise, if all lines to which it has stored are EXCLUSIVE or MODIFIED in the cache, they become MODIFIED with its values, all at once (used by rising numbers); if not, each of them that is not so is asked for, to be written, by rising numbers, and it goes on.")
    static void transactionsToEndStepByStep() {
        HearthCache x = new HearthCache();
        read(x, 0, 6);
        x.begin(0);
        x.store(0, 6, 60);
        x.store(0, 2, 20);
        is("it goes on", x.end(0), NONE);
        is("what is there waits", x.valueIn(0, 6), 0);
        is("what is not is asked for, to be written", x.stateOf(0, 2), WAITS_WRITE);
        is("it still goes on", x.end(0), NONE);
        x.pump(20);
        is("it ends well", x.end(0), 1);
        is("all at once", x.valueIn(0, 6), 60);
        is("all at once", x.valueIn(0, 2), 20);
        is("MODIFIED", x.stateOf(0, 6), MODIFIED);
        x.begin(0);
        x.store(0, 2, 21);
        x.store(0, 6, 61);
        own(x, 1, 2, 9);
        is("it ends broken", x.end(0), 0);
        is("its stores are gone", x.valueIn(0, 6), 60);
        is("its stores are gone", x.truth(2), 9);
    }

    // ---- programs

    @Sentence("to store a value, 1 to 9; to load a place; a fence; to add 1 to a place at once, which gives what was there")
    static void programsHaveFourKindsOfSteps() {
        HearthCache x = new HearthCache();
        x.step(0, STORE, 1, 7);
        x.step(0, FENCE, 0, 0);
        x.step(0, ADD, 1, 0);
        x.step(0, LOAD, 1, 0);
        outcomesAre(x, STRICT, 78);
        outcomesAre(x, BUFFERED, 78);
    }

    // ---- exceptions

    @Sentence("IndexOutOfBoundsException: there is no such core, receiver, line, thread or place.")
    static void exceptionsOfBounds() {
        HearthCache x = new HearthCache();
        outOfBounds("core", () -> x.load(4, 0));
        outOfBounds("receiver", () -> x.queued(REQUEST, 5));
        outOfBounds("line", () -> x.load(0, 16));
        outOfBounds("thread", () -> x.step(3, LOAD, 0, 0));
        outOfBounds("place of a program", () -> x.step(0, LOAD, 3, 0));
        outOfBounds("place of an outcome", () -> x.outcome(STRICT, 1));
    }

    @Sentence("IllegalArgumentException: another argument is out of its range.")
    static void exceptionsOfArguments() {
        HearthCache x = new HearthCache();
        badArgument("value of store", () -> x.store(0, 0, 1000));
        badArgument("by", () -> x.add(0, 0, 10));
        badArgument("of", () -> x.queued(3, 0));
        badArgument("rounds", () -> x.pump(21));
        badArgument("which", () -> x.counter(10));
        badArgument("what", () -> x.step(0, 4, 0, 1));
        badArgument("value of step", () -> x.step(0, STORE, 0, 10));
        badArgument("model", () -> x.outcomes(2));
    }

    @Sentence("IllegalStateException: as the method says.")
    static void exceptionsOfStates() {
        HearthCache x = new HearthCache();
        badState("end without a transaction", () -> x.end(0));
        badState("deliver without a message", () -> x.deliver(ANSWER, 0));
        x.begin(0);
        badState("begin in a transaction", () -> x.begin(0));
        badState("add in a transaction", () -> x.add(0, 0, 1));
        for (int line = 0; line < 4; line++) {
            x.store(0, line, 1);
        }
        badState("a load of a fifth line", () -> x.load(0, 4));
        badState("a store to a fifth line", () -> x.store(0, 4, 1));
        for (int i = 0; i < 4; i++) {
            x.step(0, LOAD, 0, 0);
        }
        badState("a fifth step", () -> x.step(0, LOAD, 0, 0));
    }

    // ---- promises

    @Sentence("Stores to a line: into the buffer, or the transaction.")
    static void promise3StoreIntoTheBufferOrTheTransaction() {
        HearthCache x = new HearthCache();
        x.store(0, 3, 7);
        is("in the buffer", x.fence(0), false);
        own(x, 1, 3, 4);
        x.begin(1);
        x.store(1, 3, 5);
        is("not in the buffer", x.fence(1), true);
        is("not in the cache yet", x.valueIn(1, 3), 4);
        is("in the transaction", x.load(1, 3), 5);
    }

    @Sentence("Returns whether it is.")
    static void promise5FenceTellsWhetherTheBufferIsEmpty() {
        HearthCache x = new HearthCache();
        is("empty", x.fence(0), true);
        x.store(0, 3, 7);
        is("not empty", x.fence(0), false);
        own(x, 1, 5, 8);
        is("empty again", x.fence(1), true);
        is("that of core 0 is not", x.fence(0), false);
    }

    @Sentence("`int deliver(int of, int receiver) throws IndexOutOfBoundsException, IllegalArgumentException, IllegalStateException`: Delivers the first message of a queue.")
    static void promise9DeliverTakesTheFirst() {
        HearthCache x = new HearthCache();
        x.load(3, 11);
        x.load(2, 4);
        is("the first", x.deliver(REQUEST, HOME), 11);
        is("then the second", x.deliver(REQUEST, HOME), 4);
        is("none is left", x.queued(REQUEST, HOME), 0);
    }

    @Sentence("Returns how many.")
    static void promise11QueuedCountsWhatIsSent() {
        HearthCache x = new HearthCache();
        for (int core = 0; core < 4; core++) {
            is("before core " + core, x.queued(REQUEST, HOME), core);
            x.load(core, core);
        }
        is("four", x.queued(REQUEST, HOME), 4);
        x.deliver(REQUEST, HOME);
        is("three", x.queued(REQUEST, HOME), 3);
    }

    @Sentence("Returns what a line is in the cache of a core.")
    static void promise12StateOfIsThatOfTheCore() {
        HearthCache x = new HearthCache();
        own(x, 1, 3, 7);
        x.load(2, 3);
        states("each core its own", x, 3, INVALID, MODIFIED, WAITS_READ, INVALID);
    }

    @Sentence("Returns the value of a line in the cache of a core.")
    static void promise13ValueInIsThatOfTheCore() {
        HearthCache x = new HearthCache();
        own(x, 1, 3, 7);
        own(x, 2, 5, 9);
        is("core 1", x.valueIn(1, 3), 7);
        is("core 2", x.valueIn(2, 5), 9);
        is("not in core 2", x.valueIn(2, 3), NONE);
        is("not in core 1", x.valueIn(1, 5), NONE);
    }

    @Sentence("Returns the sharers of a line, as the home knows them.")
    static void promise16SharersAreThoseThatTheHomeKnows() {
        HearthCache x = new HearthCache();
        share(x, 0, 3, 2);
        is("2 and 3", x.sharers(0), 12);
        readAll(x, 3, 5, 9, 12, 14);
        is("core 3 has it no more", x.stateOf(3, 0), INVALID);
        is("the home does not know it", x.sharers(0), 12);
    }

    @Sentence("Returns how many so far.")
    static void promise20CountersOnlyRise() {
        HearthCache x = new HearthCache();
        for (int which = 0; which < 10; which++) {
            is("counter " + which, x.counter(which), 0);
        }
        for (int i = 1; i <= 5; i++) {
            own(x, i % 2, 3, i);
            is("WRITEs", x.counter(WRITES), i);
            is("TAKEs", x.counter(TAKEN), i - 1);
        }
    }

    @Sentence("Returns how many steps the thread has then.")
    static void promise22StepCountsTheStepsOfTheThread() {
        HearthCache x = new HearthCache();
        is("thread 1", x.step(1, LOAD, 0, 0), 1);
        is("thread 2", x.step(2, LOAD, 0, 0), 1);
        is("thread 1", x.step(1, FENCE, 0, 0), 2);
        is("thread 1", x.step(1, ADD, 0, 0), 3);
        is("thread 2", x.step(2, STORE, 0, 1), 2);
    }

    @Sentence("Returns how many outcomes the program has, found by going through all orders of its steps one by one.")
    static void promise25OutcomesAnewAreAsManyAsOutcomes() {
        HearthCache x = new HearthCache();
        x.step(0, STORE, 0, 1);
        x.step(0, LOAD, 1, 0);
        x.step(1, STORE, 1, 2);
        x.step(1, LOAD, 0, 0);
        x.step(2, ADD, 0, 0);
        x.step(2, LOAD, 1, 0);
        for (int model = STRICT; model <= BUFFERED; model++) {
            is("model " + model, x.outcomesAnew(model), x.outcomes(model));
        }
        is("more by BUFFERED", x.outcomes(BUFFERED) > x.outcomes(STRICT), true);
    }
}
