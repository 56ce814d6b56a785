/** Boundary cases of "Transactions". */
public final class TransactionsBoundaryTest extends Cases {
    public static void main(String[] args) {
        runAll(TransactionsBoundaryTest.class);
    }

    // ---- it begins, and what is kept by it

    @Sentence("A core can begin a transaction, if its buffer is empty.")
    static void transactionsNeedAnEmptyBuffer() {
        HearthCache x = new HearthCache();
        own(x, 0, 3, 1);
        x.store(0, 3, 2);
        badState("a store is in it", () -> x.begin(0));
        x.drain(0);
        is("empty", x.begin(0), 0);
    }

    @Sentence("A core can begin a transaction, if its buffer is empty.")
    static void transactionsOfAllCoresAreApart() {
        HearthCache x = new HearthCache();
        for (int core = 0; core < 4; core++) {
            is("core " + core, x.begin(core), 0);
            is("its store", x.store(core, 3, core), 1);
        }
        for (int core = 0; core < 4; core++) {
            is("its own store", x.load(core, 3), core);
        }
    }

    @Sentence("Loads of it read what it has written, otherwise as told")
    static void transactionsReadWhatTheyHaveWritten() {
        HearthCache x = new HearthCache();
        own(x, 0, 3, 8);
        x.begin(0);
        is("what is in the cache", x.load(0, 3), 8);
        int loads = x.counter(LOADS);
        x.store(0, 3, 0);
        is("0 is written", x.load(0, 3), 0);
        x.store(0, 3, 999);
        is("the latest", x.load(0, 3), 999);
        is("not from a cache", x.counter(LOADS), loads);
        is("the cache has not changed", x.valueIn(0, 3), 8);
        is("another core does not see it", read(x, 1, 3), 8);
    }

    @Sentence("Loads of it read what it has written, otherwise as told")
    static void transactionsReadAWrittenLineThatIsNotThere() {
        HearthCache x = new HearthCache();
        x.begin(0);
        x.store(0, 3, 0);
        is("its own", x.load(0, 3), 0);
        is("nothing is asked for", x.queued(REQUEST, HOME), 0);
    }

    @Sentence("stores are kept by it, not in the buffer")
    static void transactionsKeepStoresOutOfTheBuffer() {
        HearthCache x = new HearthCache();
        own(x, 0, 3, 8);
        x.begin(0);
        x.store(0, 3, 9);
        is("the buffer is empty", x.fence(0), true);
        is("nothing to drain", x.drain(0), false);
        is("the line is as it was", x.valueIn(0, 3), 8);
        is("asks for nothing", x.queued(REQUEST, HOME), 0);
    }

    /** Five stores would be too many for a buffer. */
    @Sentence("stores are kept by it, not in the buffer")
    static void transactionsKeepMoreThanFourStoresOfALine() {
        HearthCache x = new HearthCache();
        x.begin(0);
        for (int value = 1; value <= 9; value++) {
            is("one line", x.store(0, 3, value), 1);
        }
        is("the latest", x.load(0, 3), 9);
        is("ended", endAll(x, 0), 1);
        is("the latest alone", x.valueIn(0, 3), 9);
    }

    // ---- at most 4 lines

    @Sentence("Lines that it has loaded with a value, and lines to which it has stored, are in it, at most 4 together.")
    static void transactionsLoadFourLinesAndNoFifth() {
        HearthCache x = new HearthCache();
        x.begin(0);
        fill(x, 0);
        badState("a fifth is not loaded", () -> x.load(0, 12));
        badState("nor stored to", () -> x.store(0, 12, 1));
        is("one of the four is loaded", x.load(0, 9), 0);
        is("one of the four is stored to", x.store(0, 9, 1), 1);
    }

    @Sentence("Lines that it has loaded with a value, and lines to which it has stored, are in it, at most 4 together.")
    static void transactionsStoreToFourLinesAndNoFifth() {
        HearthCache x = new HearthCache();
        x.begin(0);
        for (int i = 1; i <= 4; i++) {
            is("line " + 3 * i, x.store(0, 3 * i, i), i);
        }
        badState("a fifth is not stored to", () -> x.store(0, 0, 1));
        badState("nor loaded", () -> x.load(0, 0));
        is("one of the four is stored to", x.store(0, 3, 7), 4);
        is("one of the four is loaded", x.load(0, 3), 7);
    }

    @Sentence("Lines that it has loaded with a value, and lines to which it has stored, are in it, at most 4 together.")
    static void transactionsCountLoadedAndStoredLinesTogether() {
        HearthCache x = new HearthCache();
        x.begin(0);
        readAll(x, 0, 0, 5);
        x.store(0, 3, 1);
        x.store(0, 9, 1);
        badState("two and two", () -> x.store(0, 12, 1));
        badState("two and two", () -> x.load(0, 12));
    }

    @Sentence("Lines that it has loaded with a value, and lines to which it has stored, are in it, at most 4 together.")
    static void transactionsCountALineThatIsLoadedAndStoredOnce() {
        HearthCache x = new HearthCache();
        x.begin(0);
        readAll(x, 0, 0, 5);
        x.store(0, 0, 1);
        x.store(0, 5, 1);
        x.load(0, 0);
        is("a third line", x.store(0, 3, 1), 3);
        is("a fourth line", x.store(0, 9, 1), 4);
        badState("a fifth line", () -> x.store(0, 12, 1));
    }

    /** The loads of lines 0, 5, 3 and 9 give no value: so none of them is in it. */
    @Sentence("Lines that it has loaded with a value")
    static void transactionsDoNotCountLinesThatAreAskedFor() {
        HearthCache x = new HearthCache();
        x.begin(0);
        for (int line : new int[] {0, 5, 3, 9, 12}) {
            is("line " + line, x.load(0, line), NONE);
        }
        for (int i = 1; i <= 4; i++) {
            is("line " + (9 + i), x.store(0, 9 + i, i), i);
        }
        badState("now there are four", () -> x.load(0, 0));
    }

    @Sentence("at most 4 together")
    static void transactionsThatBeginAnewHaveNoLines() {
        HearthCache x = new HearthCache();
        x.begin(0);
        for (int i = 1; i <= 4; i++) {
            x.store(0, 3 * i, i);
        }
        is("ended", endAll(x, 0), 1);
        is("another value", x.add(0, 3, 5), 1);
        x.begin(0);
        is("line 3 has no store any more", x.load(0, 3), 6);
        for (int i = 1; i <= 3; i++) {
            is("line " + (12 + i), x.store(0, 12 + i, 1), i);
        }
        badState("four again", () -> x.store(0, 6, 1));
    }

    // ---- what breaks it

    @Sentence("If a KILL, a FETCH or a TAKE comes for a line that is in it, it is broken")
    static void transactionsAreBrokenByAKillOfALoadedLine() {
        HearthCache x = new HearthCache();
        share(x, 3, 0, 1);
        x.begin(0);
        x.load(0, 3);
        own(x, 1, 3, 1);
        is("broken", x.end(0), 0);
    }

    @Sentence("If a KILL, a FETCH or a TAKE comes for a line that is in it, it is broken")
    static void transactionsAreBrokenByAKillOfAStoredLine() {
        HearthCache x = new HearthCache();
        share(x, 3, 0, 1);
        x.begin(0);
        x.store(0, 3, 5);
        own(x, 1, 3, 1);
        is("broken", x.end(0), 0);
        is("its store is gone", x.truth(3), 1);
    }

    /** The line has overflowed: KILL comes to core 0, which has only stored to it in its transaction. */
    @Sentence("If a KILL, a FETCH or a TAKE comes for a line that is in it, it is broken")
    static void transactionsAreBrokenByAKillOfALineThatIsNotThere() {
        HearthCache x = new HearthCache();
        share(x, 3, 1, 2, 3);
        x.begin(0);
        x.store(0, 3, 5);
        askToWrite(x, 1, 3, 1);
        x.deliver(REQUEST, HOME);
        x.deliver(FORWARD, 0);
        is("broken", x.end(0), 0);
    }

    @Sentence("If a KILL, a FETCH or a TAKE comes for a line that is in it, it is broken")
    static void transactionsAreNotBrokenBeforeTheMessageComes() {
        HearthCache x = new HearthCache();
        share(x, 3, 0, 1);
        x.begin(0);
        x.load(0, 3);
        askToWrite(x, 1, 3, 1);
        x.deliver(REQUEST, HOME);
        is("KILL is on its way", x.queued(FORWARD, 0), 1);
        is("it ends well", x.end(0), 1);
    }

    @Sentence("comes for a line that is in it")
    static void transactionsAreNotBrokenByAKillOfAnotherLine() {
        HearthCache x = new HearthCache();
        share(x, 3, 0, 1);
        share(x, 5, 0, 1);
        x.begin(0);
        x.load(0, 5);
        own(x, 1, 3, 1);
        is("line 3 is gone", x.stateOf(0, 3), INVALID);
        is("it ends well", x.end(0), 1);
    }

    @Sentence("comes for a line that is in it")
    static void transactionsAreNotBrokenByATakeOfALineThatIsAskedForAlone() {
        HearthCache x = new HearthCache();
        x.begin(0);
        x.load(0, 3);
        x.deliver(REQUEST, HOME);
        askToWrite(x, 1, 3, 1);
        x.deliver(REQUEST, HOME);
        x.deliver(FORWARD, 0);
        x.deliver(ANSWER, 0);
        is("taken as soon as it came", x.stateOf(0, 3), INVALID);
        is("not in it", x.end(0), 1);
    }

    @Sentence("but a FETCH breaks it only if it has stored to that line")
    static void transactionsAreNotBrokenByAFetchOfALoadedLine() {
        HearthCache x = new HearthCache();
        own(x, 0, 3, 8);
        x.begin(0);
        x.load(0, 3);
        is("FETCH", read(x, 1, 3), 8);
        is("it ends well", x.end(0), 1);
    }

    @Sentence("but a FETCH breaks it only if it has stored to that line")
    static void transactionsAreNotBrokenByAFetchThoughAnotherLineIsStoredTo() {
        HearthCache x = new HearthCache();
        own(x, 0, 3, 8);
        own(x, 0, 5, 8);
        x.begin(0);
        x.load(0, 3);
        x.store(0, 5, 9);
        is("FETCH", read(x, 1, 3), 8);
        is("it ends well", x.end(0), 1);
        is("stored", x.truth(5), 9);
    }

    @Sentence("but a FETCH breaks it only if it has stored to that line")
    static void transactionsAreBrokenByAFetchOfAStoredLine() {
        HearthCache x = new HearthCache();
        own(x, 0, 3, 8);
        x.begin(0);
        x.store(0, 3, 0);
        is("FETCH", read(x, 1, 3), 8);
        is("broken", x.end(0), 0);
        is("its store is gone", x.truth(3), 8);
    }

    @Sentence("but a FETCH breaks it only if it has stored to that line")
    static void transactionsAreBrokenByAFetchOfALineThatIsLoadedAndStored() {
        HearthCache x = new HearthCache();
        own(x, 0, 3, 8);
        x.begin(0);
        x.load(0, 3);
        x.store(0, 3, 9);
        read(x, 1, 3);
        is("broken", x.end(0), 0);
    }

    @Sentence("If a KILL, a FETCH or a TAKE comes for a line that is in it, it is broken")
    static void transactionsAreBrokenByATakeOfALoadedLine() {
        HearthCache x = new HearthCache();
        own(x, 0, 3, 8);
        x.begin(0);
        x.load(0, 3);
        own(x, 1, 3, 9);
        is("broken", x.end(0), 0);
    }

    @Sentence("If a KILL, a FETCH or a TAKE comes for a line that is in it, it is broken")
    static void transactionsAreBrokenByATakeOfAStoredLine() {
        HearthCache x = new HearthCache();
        own(x, 0, 3, 8);
        x.begin(0);
        x.store(0, 3, 5);
        own(x, 1, 3, 9);
        is("broken", x.end(0), 0);
        is("its store is gone", x.truth(3), 9);
    }

    /** Line 3 waits to be written for the transaction when the FETCH comes, before its DATA. */
    @Sentence("If a KILL, a FETCH or a TAKE comes for a line that is in it, it is broken")
    static void transactionsAreBrokenByAFetchThatIsRemembered() {
        HearthCache x = new HearthCache();
        x.begin(0);
        x.store(0, 3, 5);
        x.end(0);
        x.deliver(REQUEST, HOME);
        x.load(1, 3);
        x.deliver(REQUEST, HOME);
        x.deliver(FORWARD, 0);
        is("remembered", x.stateOf(0, 3), WAITS_WRITE);
        is("broken", x.end(0), 0);
    }

    @Sentence("comes for a line that is in it")
    static void transactionsAreNotBrokenByWhatComesForAnotherCore() {
        HearthCache x = new HearthCache();
        share(x, 3, 0, 1, 2);
        x.begin(0);
        x.load(0, 3);
        x.begin(1);
        x.load(1, 3);
        askToWrite(x, 2, 3, 9);
        x.deliver(REQUEST, HOME);
        x.deliver(FORWARD, 1);
        is("core 1", x.end(1), 0);
        is("core 0, to which none has come", x.end(0), 1);
    }

    @Sentence("If a KILL, a FETCH or a TAKE comes for a line that is in it, it is broken")
    static void transactionsAreNotBrokenByWhatCameBeforeOrBehind() {
        HearthCache x = new HearthCache();
        share(x, 3, 0, 1);
        own(x, 1, 3, 1);
        x.begin(0);
        is("read anew", read(x, 0, 3), 1);
        is("it ends well", x.end(0), 1);
        own(x, 1, 3, 2);
        is("none was broken", x.begin(0), 0);
        is("it ends well, too", x.end(0), 1);
    }

    // ---- a broken one

    private static HearthCache withABrokenOne() {
        HearthCache x = new HearthCache();
        share(x, 3, 0, 1);
        x.begin(0);
        x.load(0, 3);
        own(x, 1, 3, 1);
        return x;
    }

    @Sentence("A broken one goes on as others do, but it cannot end well.")
    static void transactionsThatAreBrokenGoOn() {
        HearthCache x = withABrokenOne();
        is("a store", x.store(0, 7, 5), 1);
        is("its own", x.load(0, 7), 5);
        is("a load", read(x, 0, 9), 0);
        badState("another one can't begin", () -> x.begin(0));
        badState("no addition", () -> x.add(0, 9, 1));
        is("the buffer is empty", x.fence(0), true);
        is("broken", x.end(0), 0);
    }

    @Sentence("A broken one goes on as others do, but it cannot end well.")
    static void transactionsThatAreBrokenHaveAtMostFourLines() {
        HearthCache x = withABrokenOne();
        for (int i = 1; i <= 3; i++) {
            is("line " + (6 + i), x.store(0, 6 + i, i), i);
        }
        badState("a fifth line", () -> x.store(0, 0, 1));
        badState("a fifth line", () -> x.load(0, 0));
        is("one of the four", x.load(0, 9), 3);
    }

    @Sentence("A broken one goes on as others do, but it cannot end well.")
    static void transactionsThatAreBrokenStaySoThoughTheLineComesAgain() {
        HearthCache x = withABrokenOne();
        is("read anew", read(x, 0, 3), 1);
        is("broken", x.end(0), 0);
        is("once", x.counter(BROKEN), 1);
        is("not well", x.counter(WELL), 0);
    }

    @Sentence("if it is broken, it ends so, all its stores are gone")
    static void transactionsThatEndBrokenStoreNothing() {
        HearthCache x = new HearthCache();
        own(x, 0, 7, 6);
        share(x, 3, 0, 1);
        x.begin(0);
        x.load(0, 3);
        x.store(0, 7, 5);
        x.store(0, 8, 5);
        own(x, 1, 3, 1);
        is("broken", x.end(0), 0);
        is("line 7 as it was", x.load(0, 7), 6);
        is("line 8 is not asked for", x.stateOf(0, 8), INVALID);
        is("nothing is in the buffer", x.fence(0), true);
        badState("it has ended", () -> x.end(0));
    }

    @Sentence("if it is broken, it ends so, all its stores are gone")
    static void transactionsThatEndedBrokenLeaveTheNextOneWhole() {
        HearthCache x = withABrokenOne();
        x.store(0, 7, 5);
        x.end(0);
        is("one was broken", x.begin(0), 1);
        is("no store of the one before", x.load(0, 7), NONE);
        x.pump(20);
        is("the line's value", x.load(0, 7), 0);
        is("it ends well", x.end(0), 1);
    }

    // ---- its end

    @Sentence("Otherwise, if all lines to which it has stored are EXCLUSIVE or MODIFIED in the cache")
    static void transactionsWithoutLinesEndWell() {
        HearthCache x = new HearthCache();
        x.begin(0);
        is("empty", x.end(0), 1);
        is("counted", x.counter(WELL), 1);
        is("no message", x.queued(REQUEST, HOME), 0);
    }

    @Sentence("Otherwise, if all lines to which it has stored are EXCLUSIVE or MODIFIED in the cache")
    static void transactionsWithoutStoresEndWell() {
        HearthCache x = new HearthCache();
        share(x, 3, 0, 1);
        x.begin(0);
        x.load(0, 3);
        x.load(0, 5);
        is("SHARED is enough for what was loaded", x.end(0), 1);
        is("SHARED still", x.stateOf(0, 3), SHARED);
    }

    @Sentence("they become MODIFIED with its values, all at once")
    static void transactionsEndWithFourStores() {
        HearthCache x = new HearthCache();
        x.begin(0);
        for (int i = 1; i <= 4; i++) {
            x.store(0, 3 * i, 900 + i);
        }
        is("asked for", x.end(0), NONE);
        x.pump(20);
        is("ended", x.end(0), 1);
        for (int i = 1; i <= 4; i++) {
            is("line " + 3 * i, x.valueIn(0, 3 * i), 900 + i);
            is("line " + 3 * i, x.stateOf(0, 3 * i), MODIFIED);
        }
    }

    @Sentence("they become MODIFIED with its values, all at once")
    static void transactionsEndOnExclusiveAndModifiedLines() {
        HearthCache x = new HearthCache();
        read(x, 0, 3);
        own(x, 0, 5, 8);
        x.begin(0);
        x.store(0, 3, 0);
        x.store(0, 5, 0);
        is("both are there", x.end(0), 1);
        is("EXCLUSIVE is MODIFIED by 0, too", x.stateOf(0, 3), MODIFIED);
        is("value of line 3", x.valueIn(0, 3), 0);
        is("value of line 5", x.valueIn(0, 5), 0);
        is("no WRITE for them", x.counter(WRITES), 1);
    }

    @Sentence("they become MODIFIED with its values, all at once")
    static void transactionsStoreNothingWhileOneLineIsMissing() {
        HearthCache x = new HearthCache();
        own(x, 0, 3, 8);
        x.begin(0);
        x.store(0, 3, 9);
        x.store(0, 5, 9);
        is("line 5 is missing", x.end(0), NONE);
        is("line 3 as it was", x.valueIn(0, 3), 8);
        is("its own value", x.load(0, 3), 9);
        is("just line 5 is asked for", x.queued(REQUEST, HOME), 1);
        is("it waits", x.stateOf(0, 5), WAITS_WRITE);
    }

    @Sentence("if not, each of them that is not so is asked for, to be written, by rising numbers, and it goes on")
    static void transactionsAskByRisingNumbers() {
        HearthCache x = new HearthCache();
        x.begin(0);
        for (int line : new int[] {15, 0, 9, 3}) {
            x.store(0, line, 1);
        }
        is("goes on", x.end(0), NONE);
        for (int line : new int[] {0, 3, 9, 15}) {
            is("WRITE", x.deliver(REQUEST, HOME), line);
        }
    }

    @Sentence("if not, each of them that is not so is asked for, to be written, by rising numbers, and it goes on")
    static void transactionsAskOnceForALineThatWaits() {
        HearthCache x = new HearthCache();
        x.begin(0);
        x.store(0, 3, 1);
        is("asked for", x.end(0), NONE);
        is("it waits", x.end(0), NONE);
        is("one WRITE", x.counter(WRITES), 1);
        is("goes on", x.store(0, 5, 1), 2);
        is("line 5, too", x.end(0), NONE);
        is("two WRITEs", x.counter(WRITES), 2);
        x.pump(20);
        is("ended", x.end(0), 1);
    }

    @Sentence("if not, each of them that is not so is asked for, to be written")
    static void transactionsAskForASharedLine() {
        HearthCache x = new HearthCache();
        share(x, 3, 0, 1);
        x.begin(0);
        x.load(0, 3);
        x.store(0, 3, 7);
        is("SHARED is not enough", x.end(0), NONE);
        is("it waits", x.stateOf(0, 3), WAITS_WRITE);
        x.pump(20);
        is("ended", x.end(0), 1);
        states("written", x, 3, MODIFIED, INVALID, INVALID, INVALID);
    }

    @Sentence("if not, each of them that is not so is asked for, to be written")
    static void transactionsDoNotAskForLinesThatWereJustLoaded() {
        HearthCache x = new HearthCache();
        share(x, 3, 0, 1);
        x.begin(0);
        x.load(0, 3);
        x.store(0, 5, 7);
        is("line 5 is missing", x.end(0), NONE);
        is("one WRITE", x.queued(REQUEST, HOME), 1);
        is("line 3 stays", x.stateOf(0, 3), SHARED);
    }

    @Sentence("(used by rising numbers)")
    static void transactionsUseLinesByRisingNumbers() {
        HearthCache x = new HearthCache();
        for (int line : new int[] {9, 5, 3, 0}) {
            own(x, 0, line, 1);
        }
        x.begin(0);
        for (int line : new int[] {3, 9, 0, 5}) {
            x.store(0, line, 2);
        }
        is("ended", x.end(0), 1);
        int[] others = {12, 1, 14, 2};
        int[] rising = {0, 3, 5, 9};
        for (int i = 0; i < 4; i++) {
            x.load(0, others[i]);
            is("line " + rising[i] + " leaves", x.stateOf(0, rising[i]), LEAVING);
            is("PUTs", x.counter(PUTS), i + 1);
        }
    }
}
