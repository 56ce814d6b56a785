/** Boundary cases of "Loads, stores" and of "Strides". */
public final class LoadsAndStoresBoundaryTest extends Cases {
    public static void main(String[] args) {
        runAll(LoadsAndStoresBoundaryTest.class);
    }

    // ---- the buffer

    @Sentence("A core has a buffer of at most 4 stores.")
    static void loadsStoresTheBufferTakesFour() {
        HearthCache x = new HearthCache();
        for (int i = 1; i <= 4; i++) {
            is("store " + i, x.store(0, 3 * i, i), i);
        }
        for (int i = 1; i <= 4; i++) {
            is("load of store " + i, x.load(0, 3 * i), i);
        }
    }

    @Sentence("A core has a buffer of at most 4 stores.")
    static void loadsStoresTheBufferTakesNoFifth() {
        HearthCache x = new HearthCache();
        for (int i = 1; i <= 4; i++) {
            x.store(0, 3, i);
        }
        badState("a fifth", () -> x.store(0, 3, 5));
        is("the fourth is the latest", x.load(0, 3), 4);
    }

    @Sentence("A core has a buffer of at most 4 stores.")
    static void loadsStoresADrainedBufferTakesOneMore() {
        HearthCache x = new HearthCache();
        own(x, 0, 3, 0);
        for (int i = 1; i <= 4; i++) {
            x.store(0, 3, i);
        }
        is("one is done", x.drain(0), true);
        is("a fifth", x.store(0, 3, 5), 4);
        badState("a sixth", () -> x.store(0, 3, 6));
    }

    @Sentence("A core has a buffer of at most 4 stores.")
    static void loadsStoresEachCoreHasABufferOfItsOwn() {
        HearthCache x = new HearthCache();
        for (int i = 1; i <= 4; i++) {
            x.store(0, 3, i);
        }
        for (int core = 1; core < 4; core++) {
            is("core " + core, x.fence(core), true);
            is("core " + core, x.store(core, 3, 9), 1);
        }
    }

    /** Twelve stores go through the buffer, three at a time: a row that goes round does so in between. */
    @Sentence("To drain is to do the oldest store of the buffer")
    static void loadsStoresTheBufferStaysInOrderWhenItsRowGoesRound() {
        HearthCache x = new HearthCache();
        own(x, 0, 3, 0);
        x.store(0, 3, 1);
        x.store(0, 3, 2);
        for (int value = 3; value <= 12; value++) {
            is("a third one", x.store(0, 3, value), 3);
            is("the latest", x.load(0, 3), value);
            is("done", x.drain(0), true);
            is("the oldest", x.valueIn(0, 3), value - 2);
        }
        is("the last but one", x.drain(0), true);
        is("the last", x.drain(0), true);
        is("none any more", x.drain(0), false);
        is("its value", x.valueIn(0, 3), 12);
    }

    @Sentence("A load of a line gives the value of the latest store of the line in the buffer")
    static void loadsStoresTheLatestStoreOfTheLineIsLoaded() {
        HearthCache x = new HearthCache();
        x.store(0, 3, 1);
        x.store(0, 4, 2);
        x.store(0, 3, 5);
        x.store(0, 4, 6);
        is("line 3", x.load(0, 3), 5);
        is("line 4", x.load(0, 4), 6);
        is("line 5 is asked for", x.load(0, 5), NONE);
        is("another core does not see it", x.load(1, 3), NONE);
    }

    @Sentence("A load of a line gives the value of the latest store of the line in the buffer")
    static void loadsStoresAStoreOf0IsLoaded() {
        HearthCache x = new HearthCache();
        own(x, 0, 3, 8);
        x.store(0, 3, 0);
        is("from the buffer", x.load(0, 3), 0);
        x.drain(0);
        is("from the cache", x.load(0, 3), 0);
        x.store(1, 7, 0);
        is("of a line that is not there", x.load(1, 7), 0);
        is("not asked for", x.stateOf(1, 7), INVALID);
    }

    @Sentence("otherwise the value in the cache, if it is SHARED, EXCLUSIVE or MODIFIED")
    static void loadsStoresEachStateWithAValueIsLoaded() {
        HearthCache x = new HearthCache();
        own(x, 0, 3, 8);
        is("MODIFIED", x.load(0, 3), 8);
        x.load(1, 3);
        x.pump(20);
        is("SHARED", x.load(1, 3), 8);
        is("SHARED by FETCH", x.load(0, 3), 8);
        x.load(2, 4);
        x.pump(20);
        is("EXCLUSIVE", x.load(2, 4), 0);
        is("four loads from caches", x.counter(LOADS), 4);
    }

    @Sentence("otherwise the line is asked for, to be read, and the load has to be made again")
    static void loadsStoresALineThatWaitsToBeWrittenGivesNoValue() {
        HearthCache x = new HearthCache();
        share(x, 3, 0, 1);
        x.add(0, 3, 1);
        is("it waits", x.stateOf(0, 3), WAITS_WRITE);
        int loads = x.counter(LOADS);
        is("load", x.load(0, 3), NONE);
        is("not counted", x.counter(LOADS), loads);
    }

    @Sentence("otherwise the line is asked for, to be read, and the load has to be made again")
    static void loadsStoresALeavingLineGivesNoValue() {
        HearthCache x = new HearthCache();
        fill(x, 0);
        x.load(0, 12);
        is("LEAVING", x.stateOf(0, 0), LEAVING);
        is("load", x.load(0, 0), NONE);
    }

    // ---- to drain, to add

    @Sentence("if the line is EXCLUSIVE or MODIFIED in the cache, it becomes MODIFIED with the value")
    static void loadsStoresADrainToAnExclusiveLineIsDone() {
        HearthCache x = new HearthCache();
        read(x, 0, 3);
        x.store(0, 3, 999);
        is("drain", x.drain(0), true);
        is("MODIFIED", x.stateOf(0, 3), MODIFIED);
        is("value", x.valueIn(0, 3), 999);
        is("no message", x.queued(REQUEST, HOME), 0);
    }

    @Sentence("otherwise the line is asked for, to be written, and the store stays")
    static void loadsStoresADrainToASharedLineIsNotDone() {
        HearthCache x = new HearthCache();
        share(x, 3, 0, 1);
        x.store(0, 3, 7);
        is("drain", x.drain(0), false);
        is("it waits", x.stateOf(0, 3), WAITS_WRITE);
        is("the store stays", x.fence(0), false);
        is("and is loaded", x.load(0, 3), 7);
        is("core 1 has the old value", x.load(1, 3), 0);
    }

    @Sentence("otherwise the line is asked for, to be written, and the store stays")
    static void loadsStoresTheOldestStoreKeepsTheOthersWaiting() {
        HearthCache x = new HearthCache();
        own(x, 0, 4, 1);
        x.store(0, 3, 7);
        x.store(0, 4, 8);
        is("line 3 is not there", x.drain(0), false);
        is("line 4 would be, but has to wait", x.drain(0), false);
        is("its old value", x.valueIn(0, 4), 1);
        x.pump(20);
        is("line 3", x.drain(0), true);
        is("line 4 not by the same call", x.valueIn(0, 4), 1);
        is("line 4", x.drain(0), true);
        is("its new value", x.valueIn(0, 4), 8);
    }

    @Sentence("An atomic addition needs an empty buffer")
    static void loadsStoresAnAdditionNeedsAnEmptyBuffer() {
        HearthCache x = new HearthCache();
        own(x, 0, 3, 5);
        x.store(0, 3, 6);
        badState("a store is in it", () -> x.add(0, 3, 1));
        x.drain(0);
        is("empty", x.add(0, 3, 1), 6);
    }

    @Sentence("and the line EXCLUSIVE or MODIFIED, which is MODIFIED by it")
    static void loadsStoresAnAdditionToAnExclusiveLineModifiesIt() {
        HearthCache x = new HearthCache();
        read(x, 0, 3);
        is("EXCLUSIVE", x.add(0, 3, 9), 0);
        is("MODIFIED", x.stateOf(0, 3), MODIFIED);
        is("once more", x.add(0, 3, 9), 9);
        is("value", x.valueIn(0, 3), 18);
    }

    @Sentence("otherwise the line is asked for, to be written.")
    static void loadsStoresAnAdditionToASharedLineIsNotDone() {
        HearthCache x = new HearthCache();
        share(x, 3, 0, 1);
        is("SHARED", x.add(0, 3, 9), NONE);
        is("it waits", x.stateOf(0, 3), WAITS_WRITE);
        is("truth", x.truth(3), 0);
        x.pump(20);
        is("DATA does not add", x.valueIn(0, 3), 0);
        is("made again", x.add(0, 3, 9), 0);
    }

    // ---- strides

    private static HearthCache loaded(int core, int... lines) {
        HearthCache x = new HearthCache();
        for (int line : lines) {
            x.load(core, line);
        }
        return x;
    }

    @Sentence("its number less that of the line for which this was so last is the stride")
    static void stridesTheFirstReadHasNone() {
        for (int line = 0; line < 16; line++) {
            HearthCache x = loaded(0, line);
            is("line " + line, x.counter(READS), 1);
        }
    }

    @Sentence("If it is the same as the one before")
    static void stridesTheSecondReadHasNoneBefore() {
        for (int line = 0; line < 16; line++) {
            HearthCache x = loaded(0, 7, line);
            is("lines 7 and " + line, x.counter(STRIDES), 0);
        }
    }

    /** A line is no stride away from where nothing was read: not from line 0, and not from the line -1. */
    @Sentence("its number less that of the line for which this was so last is the stride")
    static void stridesNothingWasReadBeforeTheFirst() {
        is("1, 2", loaded(0, 1, 2).counter(STRIDES), 0);
        is("0, 1", loaded(0, 0, 1).counter(STRIDES), 0);
        is("3, 6", loaded(0, 3, 6).counter(STRIDES), 0);
        is("4, 9", loaded(0, 4, 9).counter(STRIDES), 0);
    }

    @Sentence("the line as far again ahead, if there is such a line")
    static void stridesTheThirdReadAsksAhead() {
        HearthCache x = loaded(0, 1, 4, 7);
        is("line 10", x.stateOf(0, 10), WAITS_READ);
        is("by a stride", x.counter(STRIDES), 1);
        is("READs", x.counter(READS), 4);
        is("in its order", x.queued(REQUEST, HOME), 4);
        deliver(x, REQUEST, HOME, 3);
        is("the last one", x.deliver(REQUEST, HOME), 10);
    }

    @Sentence("If it is the same as the one before, and not 0")
    static void stridesAnotherOneAsksNothing() {
        HearthCache x = loaded(0, 1, 4, 6);
        is("3, then 2", x.counter(STRIDES), 0);
        HearthCache y = new HearthCache();
        readAll(y, 0, 4, 7);
        own(y, 1, 4, 1);
        is("read anew", y.load(0, 4), NONE);
        is("3, then -3", y.counter(STRIDES), 0);
        is("READs", y.counter(READS), 3);
    }

    /** Core 1 takes the line each time, so that core 0 reads it anew. */
    @Sentence("If it is the same as the one before, and not 0")
    static void stridesOf0AskNothing() {
        HearthCache x = new HearthCache();
        for (int i = 0; i < 5; i++) {
            is("read", read(x, 0, 5), i);
            own(x, 1, 5, i + 1);
        }
        is("READs", x.counter(READS), 5);
        is("by strides", x.counter(STRIDES), 0);
    }

    @Sentence("the line as far again ahead, if there is such a line")
    static void stridesGoDownToo() {
        HearthCache x = loaded(0, 14, 10, 6);
        is("line 2", x.stateOf(0, 2), WAITS_READ);
    }

    @Sentence("the line as far again ahead, if there is such a line")
    static void stridesReachLine15() {
        HearthCache x = loaded(0, 12, 13, 14);
        is("line 15", x.stateOf(0, 15), WAITS_READ);
        HearthCache y = loaded(0, 0, 5, 10);
        is("line 15", y.stateOf(0, 15), WAITS_READ);
    }

    @Sentence("the line as far again ahead, if there is such a line")
    static void stridesDoNotReachLine16() {
        HearthCache x = loaded(0, 13, 14, 15);
        is("by strides", x.counter(STRIDES), 0);
        is("READs", x.counter(READS), 3);
        HearthCache y = loaded(0, 1, 6, 11);
        is("by strides", y.counter(STRIDES), 0);
        is("line 0 is not line 16", y.stateOf(0, 0), INVALID);
        HearthCache z = loaded(0, 1, 8, 15);
        is("line 22", z.counter(STRIDES), 0);
    }

    @Sentence("the line as far again ahead, if there is such a line")
    static void stridesReachLine0() {
        HearthCache x = loaded(0, 3, 2, 1);
        is("line 0", x.stateOf(0, 0), WAITS_READ);
        HearthCache y = loaded(0, 15, 10, 5);
        is("line 0", y.stateOf(0, 0), WAITS_READ);
    }

    @Sentence("the line as far again ahead, if there is such a line")
    static void stridesDoNotReachBelowLine0() {
        HearthCache x = loaded(0, 2, 1, 0);
        is("by strides", x.counter(STRIDES), 0);
        is("READs", x.counter(READS), 3);
        HearthCache y = loaded(0, 14, 9, 4);
        is("by strides", y.counter(STRIDES), 0);
        is("line 15 is not line -1", y.stateOf(0, 15), INVALID);
    }

    @Sentence("and it is not in the cache")
    static void stridesAskForNoLineThatIsThere() {
        HearthCache held = new HearthCache();
        own(held, 0, 7, 3);
        meetLine7WithAnEmptyPlace(held);
        is("MODIFIED", held.stateOf(0, 7), MODIFIED);
        HearthCache shared = new HearthCache();
        own(shared, 0, 7, 4);
        read(shared, 1, 7);
        meetLine7WithAnEmptyPlace(shared);
        is("SHARED", shared.stateOf(0, 7), SHARED);
    }

    private static void meetLine7WithAnEmptyPlace(HearthCache x) {
        readAll(x, 0, 1, 3);
        own(x, 1, 1, 1);
        int reads = x.counter(READS);
        is("1, 3 and 5", x.load(0, 5), NONE);
        is("by strides", x.counter(STRIDES), 0);
        is("READ of line 5", x.counter(READS), reads + 1);
    }

    /** Line 6 waits when the stride of 2 is met again, and a place is empty. */
    @Sentence("and it is not in the cache")
    static void stridesAskForNoLineThatWaits() {
        HearthCache x = new HearthCache();
        x.add(0, 6, 1);
        for (int line = 0; line <= 2; line += 2) {
            x.load(0, line);
        }
        x.pump(20);
        own(x, 1, 0, 1);
        own(x, 1, 6, 1);
        x.add(0, 6, 1);
        is("it waits", x.stateOf(0, 6), WAITS_WRITE);
        x.load(0, 4);
        is("it waits as before", x.stateOf(0, 6), WAITS_WRITE);
        is("by strides", x.counter(STRIDES), 0);
        is("READs", x.counter(READS), 3);
    }

    @Sentence("and not LEAVING, is asked for as well")
    static void stridesAskForNoLineThatIsLeaving() {
        HearthCache x = new HearthCache();
        own(x, 0, 8, 1);
        own(x, 0, 15, 1);
        read(x, 0, 2);
        read(x, 0, 4);
        askToWrite(x, 1, 15, 2);
        is("four lines are there, so line 8 leaves", x.add(0, 11, 1), NONE);
        is("LEAVING", x.stateOf(0, 8), LEAVING);
        x.deliver(REQUEST, HOME);
        x.deliver(FORWARD, 0);
        is("line 15 has been taken", x.stateOf(0, 15), INVALID);
        askToWrite(x, 2, 2, 1);
        deliver(x, REQUEST, HOME, 3);
        x.deliver(FORWARD, 0);
        is("line 2 has been taken, too", x.stateOf(0, 2), INVALID);
        is("line 8 is LEAVING still", x.stateOf(0, 8), LEAVING);
        is("stride 2 again", x.load(0, 6), NONE);
        is("by strides", x.counter(STRIDES), 0);
        is("READs", x.counter(READS), 3);
        is("LEAVING as before", x.stateOf(0, 8), LEAVING);
    }

    @Sentence("but only if a place is empty")
    static void stridesTakeTheLastEmptyPlace() {
        HearthCache x = loaded(0, 1, 4, 7);
        for (int line = 1; line <= 10; line += 3) {
            is("line " + line, x.stateOf(0, line), WAITS_READ);
        }
    }

    @Sentence("but only if a place is empty")
    static void stridesPutNoLineOut() {
        HearthCache x = new HearthCache();
        own(x, 0, 12, 1);
        for (int line = 1; line <= 7; line += 3) {
            x.load(0, line);
        }
        is("line 10 is not asked for", x.stateOf(0, 10), INVALID);
        is("line 12 stays", x.stateOf(0, 12), MODIFIED);
        is("by strides", x.counter(STRIDES), 0);
        is("no PUT", x.counter(PUTS), 0);
    }

    /** The line that is asked for itself puts another one out; for the line ahead none is. */
    @Sentence("but only if a place is empty")
    static void stridesPutNoLineOutThoughTheLoadDoes() {
        HearthCache x = new HearthCache();
        own(x, 0, 12, 1);
        own(x, 0, 14, 1);
        readAll(x, 0, 1, 4);
        is("asked for", x.load(0, 7), NONE);
        is("line 12 leaves", x.stateOf(0, 12), LEAVING);
        is("line 14 stays", x.stateOf(0, 14), MODIFIED);
        is("by strides", x.counter(STRIDES), 0);
    }

    @Sentence("when a load outside of a transaction asks for a line and READ is sent by that")
    static void stridesAreNotLookedForInATransaction() {
        HearthCache x = new HearthCache();
        x.load(0, 1);
        x.load(0, 4);
        x.begin(0);
        x.load(0, 7);
        is("by strides", x.counter(STRIDES), 0);
        is("line 10", x.stateOf(0, 10), INVALID);
    }

    /** Line 7 is read within the transaction: so the lines of the loads are 1, 4 and 10, with strides 3 and 6. */
    @Sentence("when a load outside of a transaction asks for a line and READ is sent by that")
    static void stridesAreNotLearntInATransaction() {
        HearthCache x = new HearthCache();
        readAll(x, 0, 1, 4);
        x.begin(0);
        read(x, 0, 7);
        x.end(0);
        own(x, 1, 1, 1);
        own(x, 1, 4, 1);
        x.load(0, 10);
        is("by strides", x.counter(STRIDES), 0);
        HearthCache y = new HearthCache();
        readAll(y, 0, 1, 3);
        y.begin(0);
        read(y, 0, 9);
        y.end(0);
        own(y, 1, 9, 1);
        y.load(0, 5);
        is("lines 1, 3 and 5", y.stateOf(0, 7), WAITS_READ);
    }

    @Sentence("when a load outside of a transaction asks for a line and READ is sent by that")
    static void stridesAreNotLearntFromWrites() {
        HearthCache x = new HearthCache();
        x.add(0, 1, 1);
        x.store(0, 4, 1);
        x.drain(0);
        x.load(0, 7);
        is("lines 1 and 4 were to be written", x.counter(STRIDES), 0);
        is("one READ", x.counter(READS), 1);
    }

    @Sentence("when a load outside of a transaction asks for a line and READ is sent by that")
    static void stridesAreNotLearntFromLoadsThatSendNothing() {
        HearthCache x = new HearthCache();
        x.load(0, 1);
        x.load(0, 4);
        x.load(0, 4);
        x.load(0, 7);
        is("lines 1, 4 and 7 were sent for, 4 once", x.stateOf(0, 10), WAITS_READ);
        HearthCache y = new HearthCache();
        y.store(0, 4, 1);
        y.load(0, 1);
        y.load(0, 4);
        y.load(0, 7);
        is("line 4 came from the buffer: 1 and 7", y.counter(STRIDES), 0);
    }

    /** Lines 1, 3 and 5 are sent for by loads, and line 7 by the stride: so 9 is 4 ahead of 5. */
    @Sentence("the line for which this was so last is the stride")
    static void stridesAreNotLearntFromTheirOwnReads() {
        HearthCache x = new HearthCache();
        for (int line = 1; line <= 5; line += 2) {
            read(x, 0, line);
        }
        is("line 7 has been read ahead", x.stateOf(0, 7), EXCLUSIVE);
        own(x, 1, 1, 1);
        own(x, 1, 3, 1);
        x.load(0, 9);
        is("from 5 to 9", x.counter(STRIDES), 1);
        is("line 11", x.stateOf(0, 11), INVALID);
    }

    @Sentence("the line for which this was so last is the stride")
    static void stridesAreLearntPastTheirOwnReads() {
        HearthCache x = new HearthCache();
        for (int line = 0; line <= 2; line++) {
            read(x, 0, line);
        }
        is("line 3 has been read ahead", x.stateOf(0, 3), EXCLUSIVE);
        own(x, 1, 0, 1);
        own(x, 1, 1, 1);
        x.load(0, 5);
        is("from 2 to 5", x.counter(STRIDES), 1);
        own(x, 1, 2, 1);
        own(x, 1, 3, 1);
        x.load(0, 8);
        is("from 5 to 8", x.stateOf(0, 11), WAITS_READ);
        is("by strides", x.counter(STRIDES), 2);
    }

    @Sentence("If it is the same as the one before")
    static void stridesAreMetAgainAndAgain() {
        HearthCache x = new HearthCache();
        for (int line = 0; line <= 2; line++) {
            read(x, 0, line);
        }
        is("line 3", x.counter(STRIDES), 1);
        for (int line = 0; line <= 3; line++) {
            own(x, 1, line, 1);
        }
        x.load(0, 3);
        is("line 4", x.stateOf(0, 4), WAITS_READ);
        is("twice", x.counter(STRIDES), 2);
    }

    @Sentence("its number less that of the line for which this was so last is the stride")
    static void stridesOfTwoCoresAreApart() {
        HearthCache x = new HearthCache();
        x.load(0, 1);
        x.load(1, 4);
        x.load(0, 7);
        is("1, 4 and 7 by two cores", x.counter(STRIDES), 0);
        x.load(1, 6);
        x.load(1, 8);
        is("4, 6 and 8 by core 1", x.stateOf(1, 10), WAITS_READ);
        is("not for core 0", x.stateOf(0, 10), INVALID);
        is("by strides", x.counter(STRIDES), 1);
    }
}
