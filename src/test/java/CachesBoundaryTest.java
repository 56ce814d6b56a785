/** Boundary cases of "Caches": places, what is used, how a line is asked for, and what a core gets. */
public final class CachesBoundaryTest extends Cases {
    public static void main(String[] args) {
        runAll(CachesBoundaryTest.class);
    }

    // ---- places

    @Sentence("A cache has 4 places.")
    static void cachesFourLinesFit() {
        HearthCache x = new HearthCache();
        fill(x, 0);
        for (int line : new int[] {0, 5, 3, 9}) {
            is("line " + line, x.stateOf(0, line), EXCLUSIVE);
        }
        is("no PUT", x.counter(PUTS), 0);
    }

    @Sentence("A cache has 4 places.")
    static void cachesAFifthLinePutsOneOut() {
        HearthCache x = new HearthCache();
        fill(x, 0);
        x.load(0, 12);
        is("it waits", x.stateOf(0, 12), WAITS_READ);
        is("one leaves", x.stateOf(0, 0), LEAVING);
        for (int line : new int[] {5, 3, 9}) {
            is("line " + line, x.stateOf(0, line), EXCLUSIVE);
        }
        is("one PUT", x.counter(PUTS), 1);
    }

    @Sentence("Otherwise an empty place is taken, the lowest one; without one, that whose line was used longest ago")
    static void cachesAnEmptyPlaceIsTakenBeforeOneIsPutOut() {
        HearthCache x = new HearthCache();
        fill(x, 0);
        own(x, 1, 3, 8);
        is("taken away", x.stateOf(0, 3), INVALID);
        x.load(0, 12);
        is("no PUT", x.counter(PUTS), 0);
        for (int line : new int[] {0, 5, 9}) {
            is("line " + line, x.stateOf(0, line), EXCLUSIVE);
        }
        is("it waits", x.stateOf(0, 12), WAITS_READ);
    }

    @Sentence("Besides, lines can be LEAVING, with a value, until DONE has come.")
    static void cachesALineIsLeavingUntilDone() {
        HearthCache x = new HearthCache();
        fill(x, 0);
        x.load(0, 12);
        x.deliver(REQUEST, HOME);
        is("PUT is done, but DONE has not come", x.stateOf(0, 0), LEAVING);
        is("DONE", x.deliver(ANSWER, 0), 0);
        is("it has left", x.stateOf(0, 0), INVALID);
    }

    @Sentence("Besides, lines can be LEAVING, with a value, until DONE has come.")
    static void cachesFourLinesCanBeLeavingBesidesFourThatWait() {
        HearthCache x = new HearthCache();
        fill(x, 0);
        for (int line : new int[] {12, 1, 14, 2}) {
            x.load(0, line);
        }
        for (int line : new int[] {0, 5, 3, 9}) {
            is("line " + line, x.stateOf(0, line), LEAVING);
        }
        for (int line : new int[] {12, 1, 14, 2}) {
            is("line " + line, x.stateOf(0, line), WAITS_READ);
        }
        is("four PUTs", x.counter(PUTS), 4);
        x.deliver(REQUEST, HOME);
        x.deliver(ANSWER, 0);
        is("DONE of one", x.stateOf(0, 0), INVALID);
        is("not of the others", x.stateOf(0, 5), LEAVING);
    }

    // ---- a line is used

    private static void lineThatLeavesIs(HearthCache x, int line) {
        x.load(0, 12);
        is("line " + line + " leaves", x.stateOf(0, line), LEAVING);
        is("one PUT", x.counter(PUTS), 1);
    }

    @Sentence("that whose line was used longest ago")
    static void cachesUnusedTheFirstLineLeaves() {
        HearthCache x = new HearthCache();
        fill(x, 0);
        lineThatLeavesIs(x, 0);
    }

    @Sentence("A line is used when it is loaded with a value from the cache")
    static void cachesALoadUses() {
        HearthCache x = new HearthCache();
        fill(x, 0);
        x.load(0, 0);
        lineThatLeavesIs(x, 5);
    }

    @Sentence("A line is used when it is loaded with a value from the cache")
    static void cachesALoadInATransactionUses() {
        HearthCache x = new HearthCache();
        fill(x, 0);
        x.begin(0);
        x.load(0, 0);
        x.end(0);
        lineThatLeavesIs(x, 5);
    }

    @Sentence("A line is used when it is loaded with a value from the cache")
    static void cachesALoadFromTheBufferDoesNotUse() {
        HearthCache x = new HearthCache();
        fill(x, 0);
        x.store(0, 0, 7);
        is("from the buffer", x.load(0, 0), 7);
        lineThatLeavesIs(x, 0);
    }

    /** The line is shared by a FETCH, which breaks the transaction and does not use the line either. */
    @Sentence("A line is used when it is loaded with a value from the cache")
    static void cachesALoadOfAStoreInATransactionDoesNotUse() {
        HearthCache x = new HearthCache();
        fill(x, 0);
        x.begin(0);
        x.store(0, 0, 7);
        is("its own", x.load(0, 0), 7);
        read(x, 1, 0);
        is("broken", x.end(0), 0);
        x.load(0, 12);
        is("line 0 goes", x.stateOf(0, 0), INVALID);
        is("line 5 stays", x.stateOf(0, 5), EXCLUSIVE);
    }

    @Sentence("when a store to it is done there by drain() or end()")
    static void cachesADrainUses() {
        HearthCache x = new HearthCache();
        fill(x, 0);
        x.store(0, 0, 7);
        x.drain(0);
        lineThatLeavesIs(x, 5);
    }

    @Sentence("when a store to it is done there by drain() or end()")
    static void cachesAStoreInTheBufferDoesNotUse() {
        HearthCache x = new HearthCache();
        fill(x, 0);
        x.store(0, 0, 7);
        lineThatLeavesIs(x, 0);
    }

    @Sentence("when a store to it is done there by drain() or end()")
    static void cachesAnEndUses() {
        HearthCache x = new HearthCache();
        fill(x, 0);
        x.begin(0);
        x.store(0, 0, 7);
        is("ended", x.end(0), 1);
        lineThatLeavesIs(x, 5);
    }

    /** Nothing has been stored to line 0 when the transaction goes on; line 0 goes as soon as it is broken. */
    @Sentence("when a store to it is done there by drain() or end()")
    static void cachesAnEndThatGoesOnDoesNotUse() {
        HearthCache x = new HearthCache();
        fill(x, 0);
        own(x, 1, 9, 1);
        x.begin(0);
        x.store(0, 0, 7);
        x.store(0, 9, 7);
        is("goes on", x.end(0), NONE);
        x.pump(20);
        read(x, 1, 0);
        is("broken", x.end(0), 0);
        x.load(0, 12);
        is("line 0 goes", x.stateOf(0, 0), INVALID);
        is("line 5 stays", x.stateOf(0, 5), EXCLUSIVE);
    }

    @Sentence("or an addition")
    static void cachesAnAdditionUses() {
        HearthCache x = new HearthCache();
        fill(x, 0);
        x.add(0, 0, 1);
        lineThatLeavesIs(x, 5);
    }

    /** Line 0 was asked for first, but its DATA comes last. */
    @Sentence("or when DATA for it comes")
    static void cachesDataUses() {
        HearthCache x = new HearthCache();
        own(x, 1, 0, 1);
        for (int line : new int[] {0, 5, 3, 9}) {
            x.load(0, line);
        }
        deliver(x, REQUEST, HOME, 4);
        deliver(x, ANSWER, 0, 3);
        x.pump(20);
        is("line 0 is there", x.stateOf(0, 0), SHARED);
        lineThatLeavesIs(x, 5);
    }

    @Sentence("or when DATA for it comes")
    static void cachesDataForAWriteUses() {
        HearthCache x = new HearthCache();
        fill(x, 0);
        read(x, 1, 0);
        x.add(0, 0, 1);
        x.pump(20);
        is("MODIFIED", x.stateOf(0, 0), MODIFIED);
        lineThatLeavesIs(x, 5);
    }

    @Sentence("A line is used when it is loaded with a value from the cache")
    static void cachesToLookAtALineDoesNotUse() {
        HearthCache x = new HearthCache();
        fill(x, 0);
        x.valueIn(0, 0);
        x.stateOf(0, 0);
        x.truth(0);
        lineThatLeavesIs(x, 0);
    }

    @Sentence("A line is used when it is loaded with a value from the cache")
    static void cachesAFetchDoesNotUse() {
        HearthCache x = new HearthCache();
        fill(x, 0);
        read(x, 1, 0);
        x.load(0, 12);
        is("line 0 goes", x.stateOf(0, 0), INVALID);
        is("line 5 stays", x.stateOf(0, 5), EXCLUSIVE);
    }

    // ---- to ask for a line

    private static HearthCache withLine0Leaving() {
        HearthCache x = new HearthCache();
        fill(x, 0);
        x.load(0, 12);
        is("line 0", x.stateOf(0, 0), LEAVING);
        is("PUT and READ", x.queued(REQUEST, HOME), 2);
        return x;
    }

    private static void nothingWasDone(HearthCache x) {
        is("LEAVING still", x.stateOf(0, 0), LEAVING);
        is("PUT and READ alone", x.queued(REQUEST, HOME), 2);
    }

    @Sentence("if it is LEAVING, nothing is done")
    static void cachesALeavingLineIsNotAskedForByLoad() {
        HearthCache x = withLine0Leaving();
        is("load", x.load(0, 0), NONE);
        nothingWasDone(x);
    }

    @Sentence("if it is LEAVING, nothing is done")
    static void cachesALeavingLineIsNotAskedForByDrain() {
        HearthCache x = withLine0Leaving();
        x.store(0, 0, 1);
        is("drain", x.drain(0), false);
        nothingWasDone(x);
    }

    @Sentence("if it is LEAVING, nothing is done")
    static void cachesALeavingLineIsNotAskedForByAdd() {
        HearthCache x = withLine0Leaving();
        is("add", x.add(0, 0, 1), NONE);
        nothingWasDone(x);
    }

    @Sentence("if it is LEAVING, nothing is done")
    static void cachesALeavingLineIsNotAskedForByEnd() {
        HearthCache x = withLine0Leaving();
        x.begin(0);
        x.store(0, 0, 1);
        is("end", x.end(0), NONE);
        nothingWasDone(x);
        x.pump(20);
        is("asked for now", x.end(0), NONE);
        is("it waits", x.stateOf(0, 0), WAITS_WRITE);
    }

    @Sentence("if it is LEAVING, nothing is done")
    static void cachesALeavingLineIsNotAskedForThoughAPlaceIsEmpty() {
        HearthCache x = withLine0Leaving();
        askToWrite(x, 1, 9, 1);
        deliver(x, REQUEST, HOME, 3);
        x.deliver(FORWARD, 0);
        is("a place is empty", x.stateOf(0, 9), INVALID);
        int reads = x.counter(READS);
        is("load", x.load(0, 0), NONE);
        is("LEAVING still", x.stateOf(0, 0), LEAVING);
        is("no READ", x.counter(READS), reads);
    }

    @Sentence("if it is LEAVING, nothing is done")
    static void cachesALineThatHasLeftIsAskedFor() {
        HearthCache x = withLine0Leaving();
        x.pump(20);
        x.load(0, 0);
        is("it waits", x.stateOf(0, 0), WAITS_READ);
    }

    @Sentence("If a place has it: if that WAITS, nothing is done")
    static void cachesALineThatWaitsToBeReadIsNotAskedForAgain() {
        HearthCache x = new HearthCache();
        x.load(0, 3);
        is("load", x.load(0, 3), NONE);
        is("one READ", x.queued(REQUEST, HOME), 1);
        is("one place", x.stateOf(0, 3), WAITS_READ);
    }

    @Sentence("If a place has it: if that WAITS, nothing is done")
    static void cachesALineThatWaitsToBeReadIsNotAskedForToBeWritten() {
        HearthCache x = new HearthCache();
        x.load(0, 3);
        is("add", x.add(0, 3, 1), NONE);
        x.store(0, 3, 1);
        is("drain", x.drain(0), false);
        is("no WRITE", x.counter(WRITES), 0);
        is("it waits as before", x.stateOf(0, 3), WAITS_READ);
    }

    @Sentence("If a place has it: if that WAITS, nothing is done")
    static void cachesALineThatWaitsToBeWrittenIsNotAskedForAgain() {
        HearthCache x = new HearthCache();
        x.add(0, 3, 1);
        is("load", x.load(0, 3), NONE);
        is("add", x.add(0, 3, 1), NONE);
        is("no READ", x.counter(READS), 0);
        is("one WRITE", x.counter(WRITES), 1);
        is("it waits as before", x.stateOf(0, 3), WAITS_WRITE);
    }

    @Sentence("if it is SHARED, and to be written, it WAITS to be written, and WRITE is sent")
    static void cachesASharedLineOfAFullCacheIsWrittenInItsPlace() {
        HearthCache x = new HearthCache();
        read(x, 1, 3);
        fill(x, 0);
        is("SHARED", x.stateOf(0, 3), SHARED);
        askToWrite(x, 0, 3, 1);
        is("it waits", x.stateOf(0, 3), WAITS_WRITE);
        is("WRITE", x.counter(WRITES), 1);
        is("no PUT", x.counter(PUTS), 0);
        for (int line : new int[] {0, 5, 9}) {
            is("line " + line, x.stateOf(0, line), EXCLUSIVE);
        }
    }

    @Sentence("if it is SHARED, and to be written")
    static void cachesASharedLineIsReadWithoutAREAD() {
        HearthCache x = new HearthCache();
        share(x, 3, 0, 1);
        int reads = x.counter(READS);
        is("load", x.load(1, 3), 0);
        is("no READ", x.counter(READS), reads);
        is("SHARED", x.stateOf(1, 3), SHARED);
    }

    private static HearthCache withFourThatWait() {
        HearthCache x = new HearthCache();
        for (int line : new int[] {0, 5, 3, 9}) {
            x.load(0, line);
        }
        return x;
    }

    private static void line12WasNotAskedFor(HearthCache x) {
        is("line 12", x.stateOf(0, 12), INVALID);
        is("four READs alone", x.queued(REQUEST, HOME), 4);
        for (int line : new int[] {0, 5, 3, 9}) {
            is("line " + line, x.stateOf(0, line), WAITS_READ);
        }
    }

    @Sentence("of those that do not WAIT, and whose lines are in no transaction of the core (without one of these nothing is done)")
    static void cachesALoadWhileAllPlacesWaitDoesNothing() {
        HearthCache x = withFourThatWait();
        is("load", x.load(0, 12), NONE);
        line12WasNotAskedFor(x);
    }

    @Sentence("of those that do not WAIT, and whose lines are in no transaction of the core (without one of these nothing is done)")
    static void cachesADrainWhileAllPlacesWaitDoesNothing() {
        HearthCache x = withFourThatWait();
        x.store(0, 12, 1);
        is("drain", x.drain(0), false);
        line12WasNotAskedFor(x);
        is("the store stays", x.fence(0), false);
    }

    @Sentence("of those that do not WAIT, and whose lines are in no transaction of the core (without one of these nothing is done)")
    static void cachesAnAddWhileAllPlacesWaitDoesNothing() {
        HearthCache x = withFourThatWait();
        is("add", x.add(0, 12, 1), NONE);
        line12WasNotAskedFor(x);
    }

    @Sentence("of those that do not WAIT, and whose lines are in no transaction of the core (without one of these nothing is done)")
    static void cachesAnEndWhileAllPlacesWaitDoesNothing() {
        HearthCache x = withFourThatWait();
        x.begin(0);
        x.store(0, 12, 1);
        is("end", x.end(0), NONE);
        line12WasNotAskedFor(x);
        x.pump(20);
        is("it goes on", endAll(x, 0), 1);
        is("stored", x.truth(12), 1);
    }

    @Sentence("of those that do not WAIT")
    static void cachesTheOnlyPlaceThatDoesNotWaitIsPutOut() {
        HearthCache x = new HearthCache();
        read(x, 0, 3);
        for (int line : new int[] {0, 5, 9}) {
            x.load(0, line);
        }
        x.load(0, 12);
        is("line 3 leaves", x.stateOf(0, 3), LEAVING);
        is("line 12", x.stateOf(0, 12), WAITS_READ);
        for (int line : new int[] {0, 5, 9}) {
            is("line " + line, x.stateOf(0, line), WAITS_READ);
        }
    }

    /** Line 3 was used longest ago, but it waits to be written; so line 0 leaves. */
    @Sentence("of those that do not WAIT")
    static void cachesALineThatWaitsToBeWrittenIsNotPutOut() {
        HearthCache x = new HearthCache();
        read(x, 1, 3);
        readAll(x, 0, 3, 0, 5, 9);
        askToWrite(x, 0, 3, 1);
        x.load(0, 12);
        is("line 3", x.stateOf(0, 3), WAITS_WRITE);
        is("line 0", x.stateOf(0, 0), LEAVING);
    }

    /** Line 0 is in it, and was used longest ago; the others have come, but have not been loaded with a value. */
    @Sentence("and whose lines are in no transaction of the core")
    static void cachesALineThatATransactionHasLoadedIsNotPutOut() {
        HearthCache x = new HearthCache();
        x.begin(0);
        read(x, 0, 0);
        for (int line : new int[] {5, 3, 9}) {
            x.load(0, line);
            x.pump(20);
        }
        x.load(0, 12);
        is("line 0", x.stateOf(0, 0), EXCLUSIVE);
        is("line 5", x.stateOf(0, 5), LEAVING);
    }

    @Sentence("and whose lines are in no transaction of the core")
    static void cachesALineToWhichATransactionHasStoredIsNotPutOut() {
        HearthCache x = new HearthCache();
        fill(x, 0);
        x.begin(0);
        x.store(0, 0, 1);
        x.load(0, 12);
        is("line 0", x.stateOf(0, 0), EXCLUSIVE);
        is("line 5", x.stateOf(0, 5), LEAVING);
    }

    @Sentence("and whose lines are in no transaction of the core (without one of these nothing is done)")
    static void cachesThreeLinesOfATransactionAndOneThatWaitsLeaveNoPlace() {
        HearthCache x = new HearthCache();
        x.begin(0);
        readAll(x, 0, 0, 5, 3);
        x.load(0, 9);
        x.store(0, 12, 1);
        is("end", x.end(0), NONE);
        is("not asked for", x.stateOf(0, 12), INVALID);
        is("no WRITE", x.counter(WRITES), 0);
        is("no PUT", x.counter(PUTS), 0);
        for (int line : new int[] {0, 5, 3}) {
            is("line " + line, x.stateOf(0, line), EXCLUSIVE);
        }
        x.pump(20);
        x.end(0);
        is("line 9 has come, and leaves", x.stateOf(0, 9), LEAVING);
        is("asked for", x.stateOf(0, 12), WAITS_WRITE);
    }

    @Sentence("and whose lines are in no transaction of the core")
    static void cachesAfterTheTransactionItsLinesArePutOut() {
        HearthCache x = new HearthCache();
        fill(x, 0);
        x.begin(0);
        for (int line : new int[] {0, 5, 3, 9}) {
            x.load(0, line);
        }
        is("ended", x.end(0), 1);
        lineThatLeavesIs(x, 0);
    }

    @Sentence("and whose lines are in no transaction of the core")
    static void cachesTheTransactionOfAnotherCoreKeepsNoLine() {
        HearthCache x = new HearthCache();
        read(x, 1, 0);
        fill(x, 0);
        x.begin(1);
        is("in it", x.load(1, 0), 0);
        x.load(0, 12);
        is("line 0 goes from core 0", x.stateOf(0, 0), INVALID);
        is("but not from core 1", x.stateOf(1, 0), SHARED);
        is("not broken by that", x.end(1), 1);
    }

    @Sentence("a line that is SHARED goes without a message")
    static void cachesASharedLineGoesSilently() {
        HearthCache x = new HearthCache();
        read(x, 1, 0);
        fill(x, 0);
        x.load(0, 12);
        is("line 0", x.stateOf(0, 0), INVALID);
        is("READ alone", x.queued(REQUEST, HOME), 1);
        is("no PUT", x.counter(PUTS), 0);
        is("its READ", x.deliver(REQUEST, HOME), 12);
    }

    @Sentence("of another one it is LEAVING, and PUT with its value is sent. Then the place WAITS for the line")
    static void cachesAnExclusiveLineLeavesWithPut() {
        HearthCache x = new HearthCache();
        fill(x, 0);
        x.load(0, 12);
        is("line 0", x.stateOf(0, 0), LEAVING);
        is("PUT comes first", x.deliver(REQUEST, HOME), 0);
        is("no owner", x.owner(0), NONE);
        is("then READ", x.deliver(REQUEST, HOME), 12);
    }

    @Sentence("of another one it is LEAVING, and PUT with its value is sent. Then the place WAITS for the line")
    static void cachesAModifiedLineLeavesWithItsValue() {
        HearthCache x = new HearthCache();
        fill(x, 0);
        x.add(0, 0, 9);
        readAll(x, 0, 5, 3, 9);
        askToWrite(x, 0, 12, 1);
        is("line 0", x.stateOf(0, 0), LEAVING);
        is("PUT comes first", x.deliver(REQUEST, HOME), 0);
        is("its value", x.home(0), 9);
        is("then WRITE", x.deliver(REQUEST, HOME), 12);
        is("line 12 has an owner", x.owner(12), 0);
    }

    // ---- what a core gets

    @Sentence("the line that WAITS is SHARED, EXCLUSIVE or MODIFIED, as told, with the value")
    static void cachesDataIsAsTold() {
        HearthCache x = new HearthCache();
        own(x, 1, 3, 55);
        x.load(0, 3);
        x.load(0, 7);
        x.add(0, 9, 1);
        x.pump(20);
        is("SHARED", x.stateOf(0, 3), SHARED);
        is("its value", x.valueIn(0, 3), 55);
        is("EXCLUSIVE", x.stateOf(0, 7), EXCLUSIVE);
        is("MODIFIED", x.stateOf(0, 9), MODIFIED);
        is("before the addition", x.valueIn(0, 9), 0);
    }

    /** Core 0 reads, and DATA, SHARED is on its way, when core 1 writes: KILL comes first. */
    private static HearthCache withKillBeforeData() {
        HearthCache x = new HearthCache();
        share(x, 3, 1, 2);
        x.load(0, 3);
        x.deliver(REQUEST, HOME);
        askToWrite(x, 1, 3, 8);
        x.deliver(REQUEST, HOME);
        x.deliver(FORWARD, 0);
        return x;
    }

    @Sentence("if it is told SHARED, and a KILL came for it while it waited to be read, the place is empty instead")
    static void cachesAKilledReadIsEmptyWhenDataComes() {
        HearthCache x = withKillBeforeData();
        is("it waits", x.stateOf(0, 3), WAITS_READ);
        is("the KILL is answered at once", x.queued(ANSWER, HOME), 1);
        x.deliver(ANSWER, 0);
        is("empty", x.stateOf(0, 3), INVALID);
        is("no value", x.valueIn(0, 3), NONE);
    }

    @Sentence("(otherwise that KILL counts no more)")
    static void cachesAKillCountsForOneReadAlone() {
        HearthCache x = withKillBeforeData();
        x.pump(20);
        is("the store of core 1", x.drain(1), true);
        is("asked for again", x.load(0, 3), NONE);
        x.pump(20);
        is("SHARED now", x.stateOf(0, 3), SHARED);
        is("its value", x.load(0, 3), 8);
    }

    @Sentence("(otherwise that KILL counts no more)")
    static void cachesAKillDoesNotCountForAnotherLineInThePlace() {
        HearthCache x = withKillBeforeData();
        x.pump(20);
        share(x, 6, 2, 0);
        is("another line", x.stateOf(0, 6), SHARED);
    }

    @Sentence("and a KILL came for it while it waited to be read")
    static void cachesAKillOfAnotherLineEmptiesNoRead() {
        HearthCache x = new HearthCache();
        share(x, 3, 1, 2);
        share(x, 7, 1, 0);
        x.load(0, 3);
        x.deliver(REQUEST, HOME);
        askToWrite(x, 1, 7, 8);
        x.deliver(REQUEST, HOME);
        x.deliver(FORWARD, 0);
        is("line 7 is empty", x.stateOf(0, 7), INVALID);
        x.deliver(ANSWER, 0);
        is("line 3 is not", x.stateOf(0, 3), SHARED);
    }

    /** DATA, EXCLUSIVE is on its way to core 0 when core 1 asks for the line. */
    private static HearthCache withForwardBeforeData(boolean toBeWritten, boolean byWrite) {
        HearthCache x = new HearthCache();
        if (toBeWritten) {
            x.add(0, 3, 1);
        } else {
            x.load(0, 3);
        }
        x.deliver(REQUEST, HOME);
        if (byWrite) {
            x.add(1, 3, 1);
        } else {
            x.load(1, 3);
        }
        x.deliver(REQUEST, HOME);
        x.deliver(FORWARD, 0);
        is("it waits", x.stateOf(0, 3), toBeWritten ? WAITS_WRITE : WAITS_READ);
        is("no ANSWER yet", x.queued(ANSWER, HOME), 0);
        is("the line is busy", x.waiting(3), 1);
        x.deliver(ANSWER, 0);
        is("ANSWER now", x.queued(ANSWER, HOME), 1);
        return x;
    }

    @Sentence("if a FETCH or TAKE came for it while it waited, that is done now")
    static void cachesAFetchIsDoneWhenExclusiveDataComes() {
        HearthCache x = withForwardBeforeData(false, false);
        is("SHARED", x.stateOf(0, 3), SHARED);
        x.pump(20);
        states("both", x, 3, SHARED, SHARED, INVALID, INVALID);
    }

    @Sentence("if a FETCH or TAKE came for it while it waited, that is done now")
    static void cachesAFetchIsDoneWhenModifiedDataComes() {
        HearthCache x = withForwardBeforeData(true, false);
        is("SHARED", x.stateOf(0, 3), SHARED);
        is("the addition has to wait", x.add(0, 3, 1), NONE);
    }

    @Sentence("if a FETCH or TAKE came for it while it waited, that is done now")
    static void cachesATakeIsDoneWhenExclusiveDataComes() {
        HearthCache x = withForwardBeforeData(false, true);
        is("empty", x.stateOf(0, 3), INVALID);
        x.pump(20);
        states("core 1", x, 3, INVALID, MODIFIED, INVALID, INVALID);
    }

    @Sentence("if a FETCH or TAKE came for it while it waited, that is done now")
    static void cachesATakeIsDoneWhenModifiedDataComes() {
        HearthCache x = withForwardBeforeData(true, true);
        is("empty", x.stateOf(0, 3), INVALID);
        x.pump(20);
        is("core 1 adds", x.add(1, 3, 1), 0);
    }

    @Sentence("if a FETCH or TAKE came for it while it waited, that is done now")
    static void cachesARememberedTakeIsDoneOnce() {
        HearthCache x = withForwardBeforeData(false, true);
        x.pump(20);
        x.add(1, 3, 1);
        x.add(0, 3, 1);
        x.pump(20);
        is("MODIFIED, and it stays", x.stateOf(0, 3), MODIFIED);
        is("its value", x.load(0, 3), 1);
        is("no ANSWER is left", x.queued(ANSWER, HOME), 0);
    }

    @Sentence("if a FETCH or TAKE came for it while it waited, that is done now")
    static void cachesARememberedTakeIsDoneForItsLineAlone() {
        HearthCache x = withForwardBeforeData(false, true);
        x.pump(20);
        x.load(0, 8);
        x.pump(20);
        is("another line in the place stays", x.stateOf(0, 8), EXCLUSIVE);
        is("no ANSWER is left", x.queued(ANSWER, HOME), 0);
    }

    @Sentence("KILL: if it is SHARED, the place is empty")
    static void cachesAKillEmptiesASharedLine() {
        HearthCache x = new HearthCache();
        share(x, 3, 0, 1);
        askToWrite(x, 1, 3, 8);
        x.deliver(REQUEST, HOME);
        is("KILL", x.deliver(FORWARD, 0), 3);
        is("empty", x.stateOf(0, 3), INVALID);
        is("ANSWER", x.queued(ANSWER, HOME), 1);
    }

    @Sentence("ANSWER without a value is sent in any case")
    static void cachesAKillOfALineThatIsNotThereIsAnswered() {
        HearthCache x = new HearthCache();
        share(x, 3, 0, 1, 2);
        askToWrite(x, 0, 3, 8);
        x.deliver(REQUEST, HOME);
        is("KILL", x.deliver(FORWARD, 3), 3);
        is("ANSWER", x.queued(ANSWER, HOME), 1);
        is("it is not there", x.stateOf(3, 3), INVALID);
        is("without a value", x.truth(3), 0);
    }

    /** Core 0 has answered a FETCH while the line was LEAVING; so the home takes it for a sharer. */
    @Sentence("ANSWER without a value is sent in any case")
    static void cachesAKillOfALeavingLineIsAnswered() {
        HearthCache x = new HearthCache();
        own(x, 0, 2, 9);
        readAll(x, 0, 4, 7, 11);
        x.load(1, 2);
        x.deliver(REQUEST, HOME);
        x.load(0, 14);
        x.deliver(FORWARD, 0);
        x.deliver(ANSWER, HOME);
        x.pump(1);
        is("LEAVING", x.stateOf(0, 2), LEAVING);
        askToWrite(x, 3, 2, 5);
        deliver(x, REQUEST, HOME, 2);
        is("KILL for 0", x.deliver(FORWARD, 0), 2);
        is("LEAVING still", x.stateOf(0, 2), LEAVING);
        is("ANSWER", x.queued(ANSWER, HOME), 1);
        x.pump(20);
        is("the writer", x.owner(2), 3);
        is("it has left", x.stateOf(0, 2), INVALID);
    }

    @Sentence("(One that was SHARED, and WAITS to be written, goes on waiting.)")
    static void cachesAKillOfALineThatWaitsToBeWrittenLeavesItWaiting() {
        HearthCache x = new HearthCache();
        share(x, 3, 0, 1);
        askToWrite(x, 1, 3, 8);
        askToWrite(x, 0, 3, 7);
        x.deliver(REQUEST, HOME);
        is("KILL", x.deliver(FORWARD, 0), 3);
        is("it waits", x.stateOf(0, 3), WAITS_WRITE);
        is("ANSWER", x.queued(ANSWER, HOME), 1);
        x.pump(20);
        is("DATA, MODIFIED counts", x.drain(0), true);
    }

    @Sentence("FETCH: if it is EXCLUSIVE or MODIFIED, it is SHARED, and ANSWER with its value is sent")
    static void cachesAFetchSharesAnExclusiveLine() {
        HearthCache x = new HearthCache();
        read(x, 0, 3);
        x.load(1, 3);
        x.deliver(REQUEST, HOME);
        is("FETCH", x.deliver(FORWARD, 0), 3);
        is("SHARED", x.stateOf(0, 3), SHARED);
        is("ANSWER", x.queued(ANSWER, HOME), 1);
    }

    @Sentence("FETCH: if it is EXCLUSIVE or MODIFIED, it is SHARED, and ANSWER with its value is sent")
    static void cachesAFetchSharesAModifiedLine() {
        HearthCache x = new HearthCache();
        own(x, 0, 3, 321);
        x.load(1, 3);
        x.deliver(REQUEST, HOME);
        x.deliver(FORWARD, 0);
        is("SHARED", x.stateOf(0, 3), SHARED);
        is("its value stays", x.valueIn(0, 3), 321);
        x.deliver(ANSWER, HOME);
        is("its value was in the ANSWER", x.home(3), 321);
    }

    private static HearthCache withLine2LeavingAndAForward(boolean byWrite) {
        HearthCache x = new HearthCache();
        own(x, 0, 2, 9);
        readAll(x, 0, 4, 7, 11);
        if (byWrite) {
            x.add(1, 2, 1);
        } else {
            x.load(1, 2);
        }
        x.deliver(REQUEST, HOME);
        x.load(0, 14);
        is("LEAVING", x.stateOf(0, 2), LEAVING);
        is("the FORWARD", x.deliver(FORWARD, 0), 2);
        is("ANSWER", x.queued(ANSWER, HOME), 1);
        is("LEAVING still", x.stateOf(0, 2), LEAVING);
        x.deliver(ANSWER, HOME);
        is("its value was in it", x.home(2), 9);
        return x;
    }

    @Sentence("if it is LEAVING, ANSWER with its value is sent; if it WAITS, that is remembered")
    static void cachesAFetchOfALeavingLineIsAnswered() {
        HearthCache x = withLine2LeavingAndAForward(false);
        is("both are sharers", x.sharers(2), 3);
        x.pump(20);
        states("core 1", x, 2, INVALID, SHARED, INVALID, INVALID);
    }

    @Sentence("TAKE: as FETCH, but the place is empty then.")
    static void cachesATakeOfALeavingLineIsAnswered() {
        HearthCache x = withLine2LeavingAndAForward(true);
        is("the new owner", x.owner(2), 1);
        x.pump(20);
        is("core 1 adds", x.add(1, 2, 1), 9);
    }

    @Sentence("TAKE: as FETCH, but the place is empty then.")
    static void cachesATakeEmptiesAnExclusiveLine() {
        HearthCache x = new HearthCache();
        read(x, 0, 3);
        askToWrite(x, 1, 3, 8);
        x.deliver(REQUEST, HOME);
        x.deliver(FORWARD, 0);
        is("empty", x.stateOf(0, 3), INVALID);
        is("ANSWER", x.queued(ANSWER, HOME), 1);
    }

    @Sentence("TAKE: as FETCH, but the place is empty then.")
    static void cachesATakeEmptiesAModifiedLine() {
        HearthCache x = new HearthCache();
        own(x, 0, 3, 321);
        askToWrite(x, 1, 3, 8);
        x.deliver(REQUEST, HOME);
        x.deliver(FORWARD, 0);
        is("empty", x.stateOf(0, 3), INVALID);
        is("its value is on the way", x.truth(3), 321);
        x.deliver(ANSWER, HOME);
        is("its value was in the ANSWER", x.home(3), 321);
    }

    @Sentence("DONE: the line is not LEAVING any more.")
    static void cachesDoneLetsTheLineBeAskedForAgain() {
        HearthCache x = new HearthCache();
        fill(x, 0);
        x.load(0, 12);
        x.pump(20);
        is("not LEAVING", x.stateOf(0, 0), INVALID);
        x.load(0, 0);
        is("asked for", x.stateOf(0, 0), WAITS_READ);
    }
}
