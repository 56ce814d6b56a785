import java.util.function.Consumer;

/** Boundary cases of "Exceptions": which one goes first, and that a refused call changes nothing. */
public final class ExceptionsBoundaryTest extends Cases {
    private static final Class<?> BOUNDS = IndexOutOfBoundsException.class;
    private static final Class<?> ARGUMENT = IllegalArgumentException.class;
    private static final Class<?> STATE = IllegalStateException.class;

    public static void main(String[] args) {
        runAll(ExceptionsBoundaryTest.class);
    }

    // ---- the first line that applies decides

    private static HearthCache withAFullBuffer() {
        HearthCache x = new HearthCache();
        fillBuffer(x);
        return x;
    }

    private static void fillBuffer(HearthCache x) {
        for (int i = 1; i <= 4; i++) {
            x.store(0, 3, i);
        }
    }

    private static HearthCache withAFullTransaction() {
        HearthCache x = new HearthCache();
        fillTransaction(x);
        return x;
    }

    private static void fillTransaction(HearthCache x) {
        x.begin(0);
        for (int i = 1; i <= 4; i++) {
            x.store(0, 3 * i, i);
        }
    }

    @Sentence("The first line of a method's throws clause that applies decides")
    static void exceptionsOfLoadBoundsGoAheadOfState() {
        HearthCache x = withAFullTransaction();
        outOfBounds("line 16", () -> x.load(0, 16));
        outOfBounds("line -1", () -> x.load(0, -1));
        badState("line 15", () -> x.load(0, 15));
    }

    @Sentence("The first line of a method's throws clause that applies decides")
    static void exceptionsOfStoreBoundsGoAheadOfArgument() {
        HearthCache x = new HearthCache();
        outOfBounds("core 4, value -1", () -> x.store(4, 0, -1));
        outOfBounds("line 16, value 1000", () -> x.store(0, 16, 1000));
        outOfBounds("line -1, value 1000", () -> x.store(0, -1, 1000));
    }

    @Sentence("The first line of a method's throws clause that applies decides")
    static void exceptionsOfStoreBoundsGoAheadOfState() {
        HearthCache x = withAFullBuffer();
        outOfBounds("line 16", () -> x.store(0, 16, 5));
        HearthCache y = withAFullTransaction();
        outOfBounds("line -1", () -> y.store(0, -1, 5));
    }

    @Sentence("The first line of a method's throws clause that applies decides")
    static void exceptionsOfStoreArgumentGoesAheadOfState() {
        HearthCache x = withAFullBuffer();
        badArgument("value 1000, a full buffer", () -> x.store(0, 3, 1000));
        HearthCache y = withAFullTransaction();
        badArgument("value -1, a full transaction", () -> y.store(0, 0, -1));
    }

    @Sentence("The first line of a method's throws clause that applies decides")
    static void exceptionsOfAddBoundsGoAheadOfArgument() {
        HearthCache x = new HearthCache();
        outOfBounds("core -1, by 0", () -> x.add(-1, 0, 0));
        outOfBounds("line 16, by 10", () -> x.add(0, 16, 10));
    }

    @Sentence("The first line of a method's throws clause that applies decides")
    static void exceptionsOfAddBoundsGoAheadOfState() {
        HearthCache x = withAFullBuffer();
        outOfBounds("line 16, a store in the buffer", () -> x.add(0, 16, 1));
        HearthCache y = withAFullTransaction();
        outOfBounds("line -1, a transaction", () -> y.add(0, -1, 1));
    }

    @Sentence("The first line of a method's throws clause that applies decides")
    static void exceptionsOfAddArgumentGoesAheadOfState() {
        HearthCache x = withAFullBuffer();
        badArgument("by 0, a store in the buffer", () -> x.add(0, 3, 0));
        HearthCache y = withAFullTransaction();
        badArgument("by 10, a transaction", () -> y.add(0, 3, 10));
    }

    @Sentence("The first line of a method's throws clause that applies decides")
    static void exceptionsOfDeliverBoundsGoAheadOfArgument() {
        HearthCache x = new HearthCache();
        outOfBounds("receiver 5, class 3", () -> x.deliver(3, 5));
        outOfBounds("receiver -1, class -1", () -> x.deliver(-1, -1));
    }

    @Sentence("The first line of a method's throws clause that applies decides")
    static void exceptionsOfDeliverBoundsAndArgumentGoAheadOfState() {
        HearthCache x = new HearthCache();
        outOfBounds("receiver 5, where no message is", () -> x.deliver(REQUEST, 5));
        badArgument("class 3, where no message is", () -> x.deliver(3, 4));
    }

    @Sentence("The first line of a method's throws clause that applies decides")
    static void exceptionsOfQueuedBoundsGoAheadOfArgument() {
        HearthCache x = new HearthCache();
        outOfBounds("receiver 5, class 3", () -> x.queued(3, 5));
        outOfBounds("receiver -1, class -1", () -> x.queued(-1, -1));
    }

    @Sentence("The first line of a method's throws clause that applies decides")
    static void exceptionsOfStepTheThreadGoesAheadOfArgument() {
        HearthCache x = new HearthCache();
        outOfBounds("thread 3, what 4", () -> x.step(3, 4, 0, 1));
        outOfBounds("thread -1, value 0", () -> x.step(-1, STORE, 0, 0));
    }

    @Sentence("The first line of a method's throws clause that applies decides")
    static void exceptionsOfStepThePlaceGoesAheadOfArgument() {
        HearthCache x = new HearthCache();
        outOfBounds("place 3, value 10", () -> x.step(0, STORE, 3, 10));
        outOfBounds("place -1, value 0", () -> x.step(0, STORE, -1, 0));
        outOfBounds("place 3, what 4", () -> x.step(0, 4, 3, 1));
    }

    @Sentence("The first line of a method's throws clause that applies decides")
    static void exceptionsOfStepBoundsAndArgumentGoAheadOfState() {
        HearthCache x = new HearthCache();
        for (int i = 0; i < 4; i++) {
            x.step(0, LOAD, 0, 0);
        }
        outOfBounds("place 3", () -> x.step(0, LOAD, 3, 0));
        badArgument("what 4", () -> x.step(0, 4, 0, 0));
        badArgument("value 10", () -> x.step(0, STORE, 0, 10));
        badState("none of these", () -> x.step(0, STORE, 0, 9));
    }

    @Sentence("IllegalArgumentException` if model is out of range; that goes first here")
    static void exceptionsOfOutcomeArgumentGoesAheadOfBounds() {
        HearthCache x = new HearthCache();
        badArgument("model 2, place 1", () -> x.outcome(2, 1));
        badArgument("model -1, place -1", () -> x.outcome(-1, -1));
    }

    // ---- a call that throws changes nothing

    /** A busy time: lines owned, shared and waiting, stores in a buffer, a transaction, messages on their way. */
    private static void busyTime(HearthCache x) {
        own(x, 1, 5, 40);
        share(x, 12, 0, 2);
        x.load(3, 5);
        x.store(2, 5, 41);
        x.drain(2);
        x.begin(1);
        x.load(1, 5);
        x.store(1, 12, 42);
        x.deliver(REQUEST, HOME);
        x.step(0, STORE, 0, 1);
        x.step(0, LOAD, 1, 0);
    }

    private static void changesNothing(Class<?> due, Consumer<HearthCache> refused) {
        changesNothing(due, ExceptionsBoundaryTest::busyTime, refused);
    }

    @Sentence("a call that throws changes nothing")
    static void exceptionsOfLoadChangeNothing() {
        changesNothing(BOUNDS, x -> x.load(4, 3));
        changesNothing(BOUNDS, x -> x.load(0, 16));
        changesNothing(STATE, ExceptionsBoundaryTest::fillTransaction, x -> x.load(0, 5));
    }

    @Sentence("a call that throws changes nothing")
    static void exceptionsOfStoreChangeNothing() {
        changesNothing(BOUNDS, x -> x.store(4, 3, 1));
        changesNothing(BOUNDS, x -> x.store(0, 16, 1));
        changesNothing(ARGUMENT, x -> x.store(0, 3, 1000));
        changesNothing(ARGUMENT, x -> x.store(1, 5, -1));
    }

    @Sentence("a call that throws changes nothing")
    static void exceptionsOfStoreToAFullBufferChangeNothing() {
        changesNothing(STATE, ExceptionsBoundaryTest::fillBuffer, x -> x.store(0, 3, 9));
        changesNothing(STATE, ExceptionsBoundaryTest::fillBuffer, x -> x.store(0, 5, 9));
    }

    @Sentence("a call that throws changes nothing")
    static void exceptionsOfStoreToAFullTransactionChangeNothing() {
        changesNothing(STATE, ExceptionsBoundaryTest::fillTransaction, x -> x.store(0, 5, 9));
    }

    @Sentence("a call that throws changes nothing")
    static void exceptionsOfDrainAndFenceChangeNothing() {
        changesNothing(BOUNDS, x -> x.drain(4));
        changesNothing(BOUNDS, x -> x.drain(-1));
        changesNothing(BOUNDS, x -> x.fence(4));
    }

    @Sentence("a call that throws changes nothing")
    static void exceptionsOfAddChangeNothing() {
        changesNothing(BOUNDS, x -> x.add(4, 3, 1));
        changesNothing(BOUNDS, x -> x.add(0, -1, 1));
        changesNothing(ARGUMENT, x -> x.add(0, 3, 0));
        changesNothing(ARGUMENT, x -> x.add(0, 3, 10));
    }

    /** The line is there, and could be added to, but for the store or the transaction. */
    @Sentence("a call that throws changes nothing")
    static void exceptionsOfAddInABadStateChangeNothing() {
        changesNothing(STATE, x -> x.add(1, 5, 1));
        changesNothing(STATE, x -> x.add(2, 12, 1));
        changesNothing(STATE, x -> x.add(1, 3, 1));
    }

    @Sentence("a call that throws changes nothing")
    static void exceptionsOfBeginChangeNothing() {
        changesNothing(BOUNDS, x -> x.begin(4));
        changesNothing(STATE, x -> x.begin(2));
        changesNothing(STATE, ExceptionsBoundaryTest::brokenTransaction, x -> x.begin(0));
        changesNothing(STATE, ExceptionsBoundaryTest::fillTransaction, x -> x.begin(0));
    }

    private static void brokenTransaction(HearthCache x) {
        own(x, 0, 3, 1);
        x.begin(0);
        x.load(0, 3);
        own(x, 1, 3, 2);
    }

    @Sentence("a call that throws changes nothing")
    static void exceptionsOfEndChangeNothing() {
        changesNothing(BOUNDS, x -> x.end(-1));
        changesNothing(STATE, x -> x.end(0));
        changesNothing(STATE, x -> x.end(2));
    }

    @Sentence("a call that throws changes nothing")
    static void exceptionsOfDeliverChangeNothing() {
        changesNothing(BOUNDS, x -> x.deliver(REQUEST, 5));
        changesNothing(BOUNDS, x -> x.deliver(REQUEST, -1));
        changesNothing(ARGUMENT, x -> x.deliver(3, HOME));
        changesNothing(ARGUMENT, x -> x.deliver(-1, HOME));
        changesNothing(STATE, x -> x.deliver(FORWARD, 0));
        changesNothing(STATE, x -> x.deliver(REQUEST, 0));
        changesNothing(STATE, x -> x.deliver(FORWARD, HOME));
    }

    @Sentence("a call that throws changes nothing")
    static void exceptionsOfPumpAndQueuedChangeNothing() {
        changesNothing(ARGUMENT, x -> x.pump(0));
        changesNothing(ARGUMENT, x -> x.pump(21));
        changesNothing(BOUNDS, x -> x.queued(REQUEST, 5));
        changesNothing(ARGUMENT, x -> x.queued(3, HOME));
    }

    @Sentence("a call that throws changes nothing")
    static void exceptionsOfLooksChangeNothing() {
        changesNothing(BOUNDS, x -> x.stateOf(4, 3));
        changesNothing(BOUNDS, x -> x.valueIn(0, 16));
        changesNothing(BOUNDS, x -> x.home(16));
        changesNothing(BOUNDS, x -> x.owner(-1));
        changesNothing(BOUNDS, x -> x.sharers(16));
        changesNothing(BOUNDS, x -> x.waiting(-1));
        changesNothing(BOUNDS, x -> x.truth(16));
        changesNothing(ARGUMENT, x -> x.counter(10));
    }

    @Sentence("a call that throws changes nothing")
    static void exceptionsOfStepChangeNothing() {
        changesNothing(BOUNDS, x -> x.step(3, LOAD, 0, 0));
        changesNothing(BOUNDS, x -> x.step(0, LOAD, 3, 0));
        changesNothing(ARGUMENT, x -> x.step(0, 4, 0, 1));
        changesNothing(ARGUMENT, x -> x.step(0, STORE, 0, 0));
        changesNothing(ARGUMENT, x -> x.step(0, STORE, 0, 10));
    }

    @Sentence("a call that throws changes nothing")
    static void exceptionsOfStepToAFullProgramChangeNothing() {
        changesNothing(STATE, ExceptionsBoundaryTest::fillThread0, x -> x.step(0, ADD, 0, 0));
        changesNothing(STATE, ExceptionsBoundaryTest::fillProgram, x -> x.step(2, ADD, 0, 0));
    }

    private static void fillThread0(HearthCache x) {
        for (int i = 0; i < 4; i++) {
            x.step(0, ADD, 0, 0);
        }
    }

    private static void fillProgram(HearthCache x) {
        fillThread0(x);
        x.step(1, ADD, 0, 0);
        x.step(2, ADD, 0, 0);
        x.outcomes(STRICT);
    }

    @Sentence("a call that throws changes nothing")
    static void exceptionsOfOutcomesChangeNothing() {
        changesNothing(ARGUMENT, ExceptionsBoundaryTest::fillProgram, x -> x.outcomes(2));
        changesNothing(ARGUMENT, ExceptionsBoundaryTest::fillProgram, x -> x.outcomesAnew(-1));
        changesNothing(ARGUMENT, ExceptionsBoundaryTest::fillProgram, x -> x.outcome(2, 0));
        changesNothing(BOUNDS, ExceptionsBoundaryTest::fillProgram, x -> x.outcome(STRICT, 720));
    }
}
