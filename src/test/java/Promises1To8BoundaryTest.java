/** Boundary cases of the promises 1 to 8: a new object, and what cores do. */
public final class Promises1To8BoundaryTest extends Cases {
    public static void main(String[] args) {
        runAll(Promises1To8BoundaryTest.class);
    }

    /** Core 0 has a transaction with the lines 3, 6, 9 and 12, to which it has stored 1 to 4. */
    private static HearthCache withFourLinesInATransaction() {
        HearthCache x = new HearthCache();
        x.begin(0);
        for (int i = 1; i <= 4; i++) {
            x.store(0, 3 * i, i);
        }
        return x;
    }

    // ---- promise 1: a new object

    @Sentence("`HearthCache()`: Empty caches, all values 0, no messages, an empty program.")
    static void promise1CachesAreEmpty() {
        HearthCache x = new HearthCache();
        for (int line = 0; line < 16; line++) {
            for (int core = 0; core < 4; core++) {
                is("stateOf " + core + ", " + line, x.stateOf(core, line), INVALID);
                is("valueIn " + core + ", " + line, x.valueIn(core, line), NONE);
            }
        }
        is("isCoherent", x.isCoherent(), true);
    }

    @Sentence("`HearthCache()`: Empty caches, all values 0, no messages, an empty program.")
    static void promise1AllValuesAre0() {
        HearthCache x = new HearthCache();
        for (int line = 0; line < 16; line++) {
            is("home " + line, x.home(line), 0);
            is("truth " + line, x.truth(line), 0);
            is("owner " + line, x.owner(line), NONE);
            is("sharers " + line, x.sharers(line), 0);
            is("waiting " + line, x.waiting(line), 0);
        }
    }

    @Sentence("`HearthCache()`: Empty caches, all values 0, no messages, an empty program.")
    static void promise1ThereAreNoMessages() {
        HearthCache x = new HearthCache();
        for (int of = 0; of < 3; of++) {
            for (int receiver = 0; receiver < 5; receiver++) {
                is("queued " + of + ", " + receiver, x.queued(of, receiver), 0);
            }
        }
        is("nothing to deliver", x.pump(20), 0);
    }

    @Sentence("`HearthCache()`: Empty caches, all values 0, no messages, an empty program.")
    static void promise1TheProgramIsEmpty() {
        HearthCache x = new HearthCache();
        outcomesAre(x, STRICT, 0);
        outcomesAre(x, BUFFERED, 0);
        is("no steps", x.clear(), 0);
    }

    @Sentence("`HearthCache()`: Empty caches, all values 0, no messages, an empty program.")
    static void promise1BuffersAreEmptyAndNothingWasCounted() {
        HearthCache x = new HearthCache();
        for (int which = 0; which < 10; which++) {
            is("counter " + which, x.counter(which), 0);
        }
        for (int core = 0; core < 4; core++) {
            int of = core;
            is("fence", x.fence(core), true);
            is("drain", x.drain(core), false);
            badState("no transaction", () -> x.end(of));
            is("none was broken", x.begin(core), 0);
        }
    }

    @Sentence("`HearthCache()`: Empty caches, all values 0, no messages, an empty program.")
    static void promise1TwoObjectsAreApart() {
        HearthCache x = new HearthCache();
        HearthCache y = new HearthCache();
        own(x, 0, 3, 7);
        x.store(0, 3, 8);
        x.step(0, LOAD, 0, 0);
        is("value", y.truth(3), 0);
        is("state", y.stateOf(0, 3), INVALID);
        is("buffer", y.fence(0), true);
        is("counter", y.counter(WRITES), 0);
        is("program", y.clear(), 0);
    }

    // ---- promise 2: load

    @Sentence("Throws `IndexOutOfBoundsException` if there is no such core or line")
    static void promise2LoadCoreTooSmall() {
        HearthCache x = new HearthCache();
        noneBelow0(core -> x.load(core, 0));
    }

    @Sentence("Throws `IndexOutOfBoundsException` if there is no such core or line")
    static void promise2LoadCoreTooLarge() {
        HearthCache x = new HearthCache();
        noneAbove(3, core -> x.load(core, 0));
    }

    @Sentence("Throws `IndexOutOfBoundsException` if there is no such core or line")
    static void promise2LoadLineTooSmall() {
        HearthCache x = new HearthCache();
        noneBelow0(line -> x.load(0, line));
    }

    @Sentence("Throws `IndexOutOfBoundsException` if there is no such core or line")
    static void promise2LoadLineTooLarge() {
        HearthCache x = new HearthCache();
        noneAbove(15, line -> x.load(0, line));
    }

    @Sentence("- `line`: 0 to 15")
    static void promise2LoadTheLeastAndTheGreatest() {
        HearthCache x = new HearthCache();
        own(x, 0, 0, 4);
        own(x, 3, 15, 5);
        is("core 0, line 0", x.load(0, 0), 4);
        is("core 3, line 15", x.load(3, 15), 5);
        is("core 0, line 15", x.load(0, 15), NONE);
        is("core 3, line 0", x.load(3, 0), NONE);
    }

    @Sentence("Returns the value; NONE if it has to be made again.")
    static void promise2LoadMadeAgainUntilDataHasCome() {
        HearthCache x = new HearthCache();
        is("asked for", x.load(0, 3), NONE);
        x.deliver(REQUEST, HOME);
        is("DATA is on its way", x.load(0, 3), NONE);
        x.deliver(ANSWER, 0);
        is("it has come", x.load(0, 3), 0);
    }

    @Sentence("Returns the value; NONE if it has to be made again.")
    static void promise2LoadTheLeastAndTheGreatestValue() {
        HearthCache x = new HearthCache();
        own(x, 0, 3, 999);
        is("999", x.load(0, 3), 999);
        is("999 elsewhere", read(x, 1, 3), 999);
        own(x, 0, 3, 0);
        is("0", x.load(0, 3), 0);
        is("0 elsewhere", read(x, 1, 3), 0);
    }

    @Sentence("Throws `IllegalStateException` if the core has a transaction with 4 lines, and this is not one of them")
    static void promise2LoadOfAFifthLineInATransaction() {
        HearthCache x = withFourLinesInATransaction();
        badState("line 0", () -> x.load(0, 0));
        badState("line 15", () -> x.load(0, 15));
    }

    @Sentence("Throws `IllegalStateException` if the core has a transaction with 4 lines, and this is not one of them")
    static void promise2LoadOfAFifthLineThatIsInTheCache() {
        HearthCache x = new HearthCache();
        own(x, 0, 0, 7);
        x.begin(0);
        for (int i = 1; i <= 4; i++) {
            x.store(0, 3 * i, i);
        }
        badState("line 0", () -> x.load(0, 0));
        is("not counted", x.counter(LOADS), 0);
    }

    @Sentence("Throws `IllegalStateException` if the core has a transaction with 4 lines, and this is not one of them")
    static void promise2LoadOfOneOfFourLinesInATransaction() {
        HearthCache x = withFourLinesInATransaction();
        for (int i = 1; i <= 4; i++) {
            is("line " + 3 * i, x.load(0, 3 * i), i);
        }
    }

    /** KILL has taken line 3 away from the transaction, in which it is still. */
    @Sentence("Throws `IllegalStateException` if the core has a transaction with 4 lines, and this is not one of them")
    static void promise2LoadOfOneOfFourLinesThatIsGone() {
        HearthCache x = new HearthCache();
        share(x, 3, 0, 1);
        x.begin(0);
        x.load(0, 3);
        for (int i = 2; i <= 4; i++) {
            x.store(0, 3 * i, i);
        }
        own(x, 1, 3, 8);
        is("asked for again", x.load(0, 3), NONE);
        is("it waits", x.stateOf(0, 3), WAITS_READ);
        badState("line 0", () -> x.load(0, 0));
    }

    @Sentence("Throws `IllegalStateException` if the core has a transaction with 4 lines, and this is not one of them")
    static void promise2LoadOfAFourthLineInATransaction() {
        HearthCache x = new HearthCache();
        own(x, 0, 0, 7);
        x.begin(0);
        for (int i = 1; i <= 3; i++) {
            x.store(0, 3 * i, i);
        }
        is("line 0", x.load(0, 0), 7);
        badState("line 15", () -> x.load(0, 15));
    }

    @Sentence("Throws `IllegalStateException` if the core has a transaction with 4 lines, and this is not one of them")
    static void promise2LoadByAnotherCoreThanThatOfTheTransaction() {
        HearthCache x = withFourLinesInATransaction();
        is("core 1", x.load(1, 0), NONE);
    }

    @Sentence("Throws `IllegalStateException` if the core has a transaction with 4 lines, and this is not one of them")
    static void promise2LoadOfAFifthLineBehindTheTransaction() {
        HearthCache x = withFourLinesInATransaction();
        is("ended", endAll(x, 0), 1);
        is("line 0", x.load(0, 0), NONE);
    }

    // ---- promise 3: store

    @Sentence("Throws `IndexOutOfBoundsException` if there is no such core or line")
    static void promise3StoreCoreTooSmall() {
        HearthCache x = new HearthCache();
        noneBelow0(core -> x.store(core, 0, 0));
    }

    @Sentence("Throws `IndexOutOfBoundsException` if there is no such core or line")
    static void promise3StoreCoreTooLarge() {
        HearthCache x = new HearthCache();
        noneAbove(3, core -> x.store(core, 0, 0));
    }

    @Sentence("Throws `IndexOutOfBoundsException` if there is no such core or line")
    static void promise3StoreLineTooSmall() {
        HearthCache x = new HearthCache();
        noneBelow0(line -> x.store(0, line, 0));
    }

    @Sentence("Throws `IndexOutOfBoundsException` if there is no such core or line")
    static void promise3StoreLineTooLarge() {
        HearthCache x = new HearthCache();
        noneAbove(15, line -> x.store(0, line, 0));
    }

    @Sentence("Throws `IllegalArgumentException` if value is out of range")
    static void promise3StoreValueTooSmall() {
        HearthCache x = new HearthCache();
        tooSmallBelow(0, value -> x.store(0, 0, value));
        x.begin(1);
        tooSmallBelow(0, value -> x.store(1, 0, value));
    }

    @Sentence("Throws `IllegalArgumentException` if value is out of range")
    static void promise3StoreValueTooLarge() {
        HearthCache x = new HearthCache();
        tooLargeAbove(999, value -> x.store(0, 0, value));
        x.begin(1);
        tooLargeAbove(999, value -> x.store(1, 0, value));
    }

    @Sentence("- `value`: 0 to 999")
    static void promise3StoreTheLeastAndTheGreatest() {
        HearthCache x = new HearthCache();
        is("value 0", x.store(0, 0, 0), 1);
        is("value 999", x.store(3, 15, 999), 1);
        is("value 0", x.load(0, 0), 0);
        is("value 999", x.load(3, 15), 999);
        x.drain(0);
        x.drain(3);
        x.pump(20);
        is("done", x.drain(0), true);
        is("done", x.drain(3), true);
        is("value 0", x.truth(0), 0);
        is("value 999", x.truth(15), 999);
    }

    @Sentence("Returns how many stores the buffer, or lines with stores the transaction has then.")
    static void promise3StoreCountsEachStoreOfTheBuffer() {
        HearthCache x = new HearthCache();
        is("one", x.store(0, 3, 1), 1);
        is("two of a line", x.store(0, 3, 1), 2);
        is("three", x.store(0, 4, 1), 3);
        is("four", x.store(0, 3, 1), 4);
    }

    @Sentence("Returns how many stores the buffer, or lines with stores the transaction has then.")
    static void promise3StoreCountsEachLineOfTheTransactionOnce() {
        HearthCache x = new HearthCache();
        x.begin(0);
        is("one", x.store(0, 3, 1), 1);
        is("the same line", x.store(0, 3, 2), 1);
        is("two", x.store(0, 4, 1), 2);
        is("the first line again, with 0", x.store(0, 3, 0), 2);
        is("once more", x.store(0, 3, 5), 2);
    }

    @Sentence("Returns how many stores the buffer, or lines with stores the transaction has then.")
    static void promise3StoreDoesNotCountLinesThatAreJustLoaded() {
        HearthCache x = new HearthCache();
        x.begin(0);
        readAll(x, 0, 0, 5);
        is("one", x.store(0, 3, 1), 1);
        is("one that was loaded", x.store(0, 5, 1), 2);
    }

    @Sentence("Throws `IllegalStateException` if the buffer has 4 stores, or the transaction 4 lines, and this is not one of them")
    static void promise3StoreToAFullBuffer() {
        HearthCache x = new HearthCache();
        for (int i = 1; i <= 4; i++) {
            x.store(0, 3 * i, i);
        }
        badState("another line", () -> x.store(0, 0, 1));
        badState("a line of the buffer", () -> x.store(0, 3, 1));
        badState("the latest line of the buffer", () -> x.store(0, 12, 1));
        is("another core", x.store(1, 3, 1), 1);
    }

    @Sentence("Throws `IllegalStateException` if the buffer has 4 stores, or the transaction 4 lines, and this is not one of them")
    static void promise3StoreOfAFifthLineInATransaction() {
        HearthCache x = withFourLinesInATransaction();
        badState("line 0", () -> x.store(0, 0, 1));
        badState("line 15", () -> x.store(0, 15, 1));
        is("another core", x.store(1, 0, 1), 1);
    }

    @Sentence("Throws `IllegalStateException` if the buffer has 4 stores, or the transaction 4 lines, and this is not one of them")
    static void promise3StoreOfOneOfFourLinesInATransaction() {
        HearthCache x = withFourLinesInATransaction();
        for (int i = 1; i <= 4; i++) {
            is("line " + 3 * i, x.store(0, 3 * i, 0), 4);
        }
    }

    @Sentence("Throws `IllegalStateException` if the buffer has 4 stores, or the transaction 4 lines, and this is not one of them")
    static void promise3StoreOfOneOfFourLinesThatWereLoaded() {
        HearthCache x = new HearthCache();
        x.begin(0);
        fill(x, 0);
        badState("line 12", () -> x.store(0, 12, 1));
        is("line 0", x.store(0, 0, 1), 1);
        is("line 9", x.store(0, 9, 1), 2);
    }

    // ---- promise 4: drain

    @Sentence("Throws `IndexOutOfBoundsException` if there is no such core")
    static void promise4DrainCoreTooSmall() {
        HearthCache x = new HearthCache();
        noneBelow0(x::drain);
    }

    @Sentence("Throws `IndexOutOfBoundsException` if there is no such core")
    static void promise4DrainCoreTooLarge() {
        HearthCache x = new HearthCache();
        noneAbove(3, x::drain);
    }

    @Sentence("Returns whether the store was done; false also if the buffer is empty.")
    static void promise4DrainOfAnEmptyBuffer() {
        HearthCache x = new HearthCache();
        for (int core = 0; core < 4; core++) {
            is("core " + core, x.drain(core), false);
        }
        is("nothing is asked for", x.queued(REQUEST, HOME), 0);
    }

    @Sentence("Returns whether the store was done; false also if the buffer is empty.")
    static void promise4DrainOfABufferThatIsEmptyAgain() {
        HearthCache x = new HearthCache();
        own(x, 0, 3, 7);
        x.add(0, 3, 1);
        is("drain", x.drain(0), false);
        is("the last store is not done again", x.truth(3), 8);
    }

    @Sentence("Returns whether the store was done; false also if the buffer is empty.")
    static void promise4DrainOfAStoreThatHasToWait() {
        HearthCache x = new HearthCache();
        x.store(3, 15, 7);
        is("asked for", x.drain(3), false);
        is("it waits", x.drain(3), false);
        x.pump(20);
        is("done", x.drain(3), true);
        is("empty", x.drain(3), false);
    }

    @Sentence("Drains the buffer of a core by one store.")
    static void promise4DrainOneOfFourStores() {
        HearthCache x = new HearthCache();
        own(x, 0, 3, 0);
        for (int i = 1; i <= 4; i++) {
            x.store(0, 3, i);
        }
        for (int i = 1; i <= 4; i++) {
            is("done", x.drain(0), true);
            is("value", x.valueIn(0, 3), i);
            is("empty", x.fence(0), i == 4);
        }
    }

    @Sentence("Drains the buffer of a core by one store.")
    static void promise4DrainNoOtherCore() {
        HearthCache x = new HearthCache();
        own(x, 1, 3, 0);
        x.store(1, 3, 5);
        is("core 0", x.drain(0), false);
        is("core 1 has its store", x.fence(1), false);
        is("not done", x.valueIn(1, 3), 0);
    }

    // ---- promise 5: fence

    @Sentence("Throws `IndexOutOfBoundsException` if there is no such core")
    static void promise5FenceCoreTooSmall() {
        HearthCache x = new HearthCache();
        noneBelow0(x::fence);
    }

    @Sentence("Throws `IndexOutOfBoundsException` if there is no such core")
    static void promise5FenceCoreTooLarge() {
        HearthCache x = new HearthCache();
        noneAbove(3, x::fence);
    }

    @Sentence("Tells whether a fence is passed: the buffer is empty.")
    static void promise5FenceOfEmptyAndFullBuffers() {
        for (int core = 0; core < 4; core++) {
            HearthCache x = new HearthCache();
            own(x, core, 3, 0);
            is("empty", x.fence(core), true);
            for (int i = 1; i <= 4; i++) {
                x.store(core, 3, i);
                is("stores: " + i, x.fence(core), false);
            }
            is("another core", x.fence((core + 1) % 4), true);
            for (int i = 3; i >= 0; i--) {
                x.drain(core);
                is("stores: " + i, x.fence(core), i == 0);
            }
        }
    }

    @Sentence("Tells whether a fence is passed: the buffer is empty.")
    static void promise5FenceDoesNotDrain() {
        HearthCache x = new HearthCache();
        own(x, 0, 3, 0);
        x.store(0, 3, 5);
        is("not passed", x.fence(0), false);
        is("nor then", x.fence(0), false);
        is("not done", x.valueIn(0, 3), 0);
    }

    // ---- promise 6: add

    @Sentence("Throws `IndexOutOfBoundsException` if there is no such core or line")
    static void promise6AddCoreTooSmall() {
        HearthCache x = new HearthCache();
        noneBelow0(core -> x.add(core, 0, 1));
    }

    @Sentence("Throws `IndexOutOfBoundsException` if there is no such core or line")
    static void promise6AddCoreTooLarge() {
        HearthCache x = new HearthCache();
        noneAbove(3, core -> x.add(core, 0, 1));
    }

    @Sentence("Throws `IndexOutOfBoundsException` if there is no such core or line")
    static void promise6AddLineTooSmall() {
        HearthCache x = new HearthCache();
        noneBelow0(line -> x.add(0, line, 1));
    }

    @Sentence("Throws `IndexOutOfBoundsException` if there is no such core or line")
    static void promise6AddLineTooLarge() {
        HearthCache x = new HearthCache();
        noneAbove(15, line -> x.add(0, line, 1));
    }

    @Sentence("Throws `IllegalArgumentException` if by is out of range")
    static void promise6AddByTooSmall() {
        HearthCache x = new HearthCache();
        own(x, 0, 3, 5);
        tooSmallBelow(1, by -> x.add(0, 3, by));
        badArgument("-1", () -> x.add(0, 3, -1));
        is("nothing was added", x.truth(3), 5);
    }

    @Sentence("Throws `IllegalArgumentException` if by is out of range")
    static void promise6AddByTooLarge() {
        HearthCache x = new HearthCache();
        own(x, 0, 3, 5);
        tooLargeAbove(9, by -> x.add(0, 3, by));
        is("nothing was added", x.truth(3), 5);
    }

    @Sentence("- `by`: 1 to 9")
    static void promise6AddTheLeastAndTheGreatest() {
        HearthCache x = new HearthCache();
        own(x, 0, 0, 5);
        own(x, 3, 15, 5);
        is("by 1", x.add(0, 0, 1), 5);
        is("by 9", x.add(3, 15, 9), 5);
        is("6", x.truth(0), 6);
        is("14", x.truth(15), 14);
    }

    @Sentence("the value is taken modulo 1000")
    static void promise6AddUpTo999() {
        HearthCache x = new HearthCache();
        own(x, 0, 3, 990);
        is("before", x.add(0, 3, 9), 990);
        is("999", x.valueIn(0, 3), 999);
    }

    @Sentence("the value is taken modulo 1000")
    static void promise6AddGoesRoundFrom999To0() {
        HearthCache x = new HearthCache();
        own(x, 0, 3, 999);
        is("before", x.add(0, 3, 1), 999);
        is("0", x.valueIn(0, 3), 0);
        is("truth", x.truth(3), 0);
        is("before", x.add(0, 3, 1), 0);
        is("1", x.valueIn(0, 3), 1);
    }

    @Sentence("the value is taken modulo 1000")
    static void promise6AddGoesRoundPast1000() {
        for (int by = 1; by <= 9; by++) {
            HearthCache x = new HearthCache();
            own(x, 0, 3, 995);
            x.add(0, 3, by);
            is("995 and " + by, x.truth(3), by < 5 ? 995 + by : by - 5);
        }
    }

    @Sentence("Returns the value before; NONE if it has to be made again.")
    static void promise6AddMadeAgainUntilDataHasCome() {
        HearthCache x = new HearthCache();
        is("asked for", x.add(0, 3, 5), NONE);
        x.deliver(REQUEST, HOME);
        is("DATA is on its way", x.add(0, 3, 5), NONE);
        x.deliver(ANSWER, 0);
        is("it has come", x.add(0, 3, 5), 0);
        is("added once", x.truth(3), 5);
    }

    @Sentence("Throws `IllegalStateException` if the buffer is not empty, or the core has a transaction")
    static void promise6AddWithAStoreInTheBuffer() {
        HearthCache x = new HearthCache();
        own(x, 0, 3, 5);
        x.store(0, 7, 1);
        badState("a store of another line", () -> x.add(0, 3, 1));
        is("another core", x.add(1, 4, 1), NONE);
    }

    @Sentence("Throws `IllegalStateException` if the buffer is not empty, or the core has a transaction")
    static void promise6AddInATransaction() {
        HearthCache x = new HearthCache();
        own(x, 0, 3, 5);
        x.begin(0);
        badState("an empty one", () -> x.add(0, 3, 1));
        x.load(0, 3);
        badState("a line of it", () -> x.add(0, 3, 1));
        is("another core", x.add(1, 4, 1), NONE);
        x.end(0);
        is("behind it", x.add(0, 3, 1), 5);
    }

    // ---- promise 7: begin

    @Sentence("Throws `IndexOutOfBoundsException` if there is no such core")
    static void promise7BeginCoreTooSmall() {
        HearthCache x = new HearthCache();
        noneBelow0(x::begin);
    }

    @Sentence("Throws `IndexOutOfBoundsException` if there is no such core")
    static void promise7BeginCoreTooLarge() {
        HearthCache x = new HearthCache();
        noneAbove(3, x::begin);
    }

    @Sentence("Returns how many of its transactions were broken so far.")
    static void promise7BeginAfterNoneWasBroken() {
        HearthCache x = new HearthCache();
        for (int core = 0; core < 4; core++) {
            is("the first", x.begin(core), 0);
            is("ended well", x.end(core), 1);
            is("the second", x.begin(core), 0);
        }
    }

    @Sentence("Returns how many of its transactions were broken so far.")
    static void promise7BeginAfterSomeWereBroken() {
        HearthCache x = new HearthCache();
        for (int i = 0; i < 5; i++) {
            is("broken so far", x.begin(0), i);
            read(x, 0, 3);
            own(x, 1, 3, i);
            is("broken", x.end(0), 0);
        }
        is("five", x.begin(0), 5);
        is("ended well", x.end(0), 1);
        is("still five", x.begin(0), 5);
        is("none of core 1", x.begin(1), 0);
    }

    /** A KILL and a TAKE come for lines of one transaction. */
    @Sentence("Returns how many of its transactions were broken so far.")
    static void promise7BeginCountsATransactionThatWasBrokenTwiceOnce() {
        HearthCache x = new HearthCache();
        share(x, 3, 0, 1);
        own(x, 0, 5, 1);
        x.begin(0);
        x.load(0, 3);
        x.load(0, 5);
        own(x, 1, 3, 2);
        own(x, 1, 5, 2);
        is("broken", x.end(0), 0);
        is("one", x.begin(0), 1);
    }

    @Sentence("Throws `IllegalStateException` if it has one, or its buffer is not empty")
    static void promise7BeginASecondOne() {
        HearthCache x = new HearthCache();
        x.begin(0);
        badState("it has one", () -> x.begin(0));
        is("another core", x.begin(1), 0);
        x.end(0);
        is("behind it", x.begin(0), 0);
    }

    @Sentence("Throws `IllegalStateException` if it has one, or its buffer is not empty")
    static void promise7BeginASecondOneWhileTheFirstGoesOn() {
        HearthCache x = new HearthCache();
        x.begin(0);
        x.store(0, 3, 1);
        is("goes on", x.end(0), NONE);
        badState("it has one", () -> x.begin(0));
    }

    @Sentence("Throws `IllegalStateException` if it has one, or its buffer is not empty")
    static void promise7BeginWithOneToFourStoresInTheBuffer() {
        HearthCache x = new HearthCache();
        for (int i = 1; i <= 4; i++) {
            x.store(0, 3, i);
            badState("stores: " + i, () -> x.begin(0));
        }
        is("another core", x.begin(1), 0);
    }

    // ---- promise 8: end

    @Sentence("Throws `IndexOutOfBoundsException` if there is no such core")
    static void promise8EndCoreTooSmall() {
        HearthCache x = new HearthCache();
        noneBelow0(x::end);
    }

    @Sentence("Throws `IndexOutOfBoundsException` if there is no such core")
    static void promise8EndCoreTooLarge() {
        HearthCache x = new HearthCache();
        noneAbove(3, x::end);
    }

    @Sentence("Throws `IllegalStateException` if it has none")
    static void promise8EndOfNone() {
        HearthCache x = new HearthCache();
        x.begin(1);
        for (int core : new int[] {0, 2, 3}) {
            badState("core " + core, () -> x.end(core));
        }
        is("core 1", x.end(1), 1);
    }

    @Sentence("Throws `IllegalStateException` if it has none")
    static void promise8EndOfOneThatHasEnded() {
        HearthCache x = new HearthCache();
        x.begin(0);
        x.end(0);
        badState("ended well", () -> x.end(0));
        share(x, 3, 0, 1);
        x.begin(0);
        x.load(0, 3);
        own(x, 1, 3, 1);
        is("broken", x.end(0), 0);
        badState("ended broken", () -> x.end(0));
    }

    @Sentence("Returns 1 if it ended well, 0 if it was broken, NONE if it goes on.")
    static void promise8EndGoesOnUntilTheLineIsThere() {
        HearthCache x = new HearthCache();
        x.begin(0);
        x.store(0, 3, 5);
        is("asked for", x.end(0), NONE);
        is("it waits", x.end(0), NONE);
        x.pump(20);
        is("it has come", x.end(0), 1);
        is("stored", x.valueIn(0, 3), 5);
        is("counted once", x.counter(WELL), 1);
        is("not broken", x.counter(BROKEN), 0);
    }

    @Sentence("Returns 1 if it ended well, 0 if it was broken, NONE if it goes on.")
    static void promise8EndIsBrokenThoughALineIsMissing() {
        HearthCache x = new HearthCache();
        share(x, 3, 0, 1);
        x.begin(0);
        x.load(0, 3);
        x.store(0, 7, 5);
        own(x, 1, 3, 1);
        is("broken", x.end(0), 0);
        is("counted", x.counter(BROKEN), 1);
        is("not well", x.counter(WELL), 0);
        is("line 7 is not asked for", x.stateOf(0, 7), INVALID);
    }
}
