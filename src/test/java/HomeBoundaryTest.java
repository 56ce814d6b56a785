/** Boundary cases of "The home". */
public final class HomeBoundaryTest extends Cases {
    public static void main(String[] args) {
        runAll(HomeBoundaryTest.class);
    }

    // ---- sharers

    @Sentence("a value, an owner, or none, and sharers, none of both at first")
    static void homeHasNoOwnerAndNoSharersAtFirst() {
        HearthCache x = new HearthCache();
        for (int line = 0; line < 16; line++) {
            is("owner of " + line, x.owner(line), NONE);
            is("sharers of " + line, x.sharers(line), 0);
        }
    }

    @Sentence("Up to 2 sharers are known one by one")
    static void homeTwoSharersAreKnown() {
        for (int one = 0; one < 4; one++) {
            for (int other = 0; other < 4; other++) {
                if (one != other) {
                    HearthCache x = new HearthCache();
                    share(x, 6, one, other);
                    is("cores " + one + " and " + other, x.sharers(6), (1 << one) + (1 << other));
                    is("no overflow", x.counter(OVERFLOWS), 0);
                }
            }
        }
    }

    @Sentence("with a third one it is only known that there are some (it has overflowed)")
    static void homeAThirdSharerOverflows() {
        HearthCache x = new HearthCache();
        share(x, 6, 3, 1, 2);
        is("some", x.sharers(6), 15);
        is("once", x.counter(OVERFLOWS), 1);
        is("another line has not", x.sharers(5), 0);
    }

    @Sentence("with a third one it is only known that there are some (it has overflowed), until there are none any more")
    static void homeAFourthSharerDoesNotOverflowAgain() {
        HearthCache x = new HearthCache();
        share(x, 6, 3, 1, 2, 0);
        is("some", x.sharers(6), 15);
        is("once", x.counter(OVERFLOWS), 1);
    }

    /** Core 0 has put the line out silently, and reads it again: it is known already. */
    @Sentence("Up to 2 sharers are known one by one")
    static void homeAKnownSharerAgainIsNoThirdOne() {
        HearthCache x = new HearthCache();
        share(x, 0, 1, 0);
        readAll(x, 0, 5, 3, 9, 12);
        is("put out", x.stateOf(0, 0), INVALID);
        is("still known", x.sharers(0), 3);
        is("read again", read(x, 0, 0), 0);
        is("the same two", x.sharers(0), 3);
        is("no overflow", x.counter(OVERFLOWS), 0);
    }

    @Sentence("it is only known that there are some (it has overflowed), until there are none any more")
    static void homeSharersAreKnownAgainAfterAWrite() {
        HearthCache x = new HearthCache();
        share(x, 6, 0, 1, 2);
        own(x, 1, 6, 4);
        is("none any more", x.sharers(6), 0);
        read(x, 3, 6);
        is("two known ones", x.sharers(6), 10);
        own(x, 3, 6, 5);
        is("three KILLs while it had overflowed, then one", x.counter(KILLS), 3 + 1);
    }

    @Sentence("it is only known that there are some (it has overflowed), until there are none any more")
    static void homeALineOverflowsASecondTime() {
        HearthCache x = new HearthCache();
        share(x, 6, 0, 1, 2);
        own(x, 1, 6, 4);
        share(x, 6, 3, 0);
        is("some", x.sharers(6), 15);
        is("twice", x.counter(OVERFLOWS), 2);
    }

    @Sentence("until there are none any more")
    static void homeAnOverflowedLineStaysSoWhileItsSharersGoSilently() {
        HearthCache x = new HearthCache();
        share(x, 0, 0, 1, 2);
        for (int core = 0; core < 3; core++) {
            readAll(x, core, 5, 3, 9, 12);
            is("put out", x.stateOf(core, 0), INVALID);
        }
        is("the home is not told", x.sharers(0), 15);
        own(x, 3, 0, 1);
        is("KILLs for all others", x.counter(KILLS), 3);
    }

    // ---- busy lines

    @Sentence("A line is busy, while a request of it waits for ANSWERs; requests that come then wait in a row of the line")
    static void homeRequestsWaitWhileTheLineIsBusy() {
        HearthCache x = new HearthCache();
        own(x, 0, 3, 7);
        for (int core = 1; core < 4; core++) {
            x.load(core, 3);
        }
        deliver(x, REQUEST, HOME, 3);
        is("all three", x.waiting(3), 3);
        is("one FETCH alone", x.counter(TAKEN), 1);
        is("no DATA for 1", x.queued(ANSWER, 1), 0);
        is("no DATA for 2", x.queued(ANSWER, 2), 0);
        is("no DATA for 3", x.queued(ANSWER, 3), 0);
    }

    @Sentence("A line is busy, while a request of it waits for ANSWERs")
    static void homeOtherLinesAreNotBusy() {
        HearthCache x = new HearthCache();
        own(x, 0, 3, 7);
        x.load(1, 3);
        x.load(2, 4);
        deliver(x, REQUEST, HOME, 2);
        is("busy", x.waiting(3), 1);
        is("not busy", x.waiting(4), 0);
        is("DATA", x.queued(ANSWER, 2), 1);
    }

    @Sentence("when it is not busy any more, the first one is done, and so on, until it is busy again or the row is empty")
    static void homeTheRowIsDoneUntilItIsEmpty() {
        HearthCache x = new HearthCache();
        own(x, 0, 3, 7);
        for (int core = 1; core < 4; core++) {
            x.load(core, 3);
        }
        deliver(x, REQUEST, HOME, 3);
        x.deliver(FORWARD, 0);
        x.deliver(ANSWER, HOME);
        is("none waits", x.waiting(3), 0);
        for (int core = 1; core < 4; core++) {
            is("DATA for " + core, x.queued(ANSWER, core), 1);
        }
    }

    @Sentence("when it is not busy any more, the first one is done, and so on, until it is busy again or the row is empty")
    static void homeTheRowIsDoneUntilTheLineIsBusyAgain() {
        HearthCache x = new HearthCache();
        own(x, 0, 3, 7);
        x.load(1, 3);
        askToWrite(x, 2, 3, 8);
        x.load(3, 3);
        deliver(x, REQUEST, HOME, 3);
        x.deliver(FORWARD, 0);
        x.deliver(ANSWER, HOME);
        is("the READ is done", x.queued(ANSWER, 1), 1);
        is("the WRITE has made it busy", x.waiting(3), 2);
        is("the last READ waits", x.queued(ANSWER, 3), 0);
        is("KILL for 0", x.queued(FORWARD, 0), 1);
        is("KILL for 1", x.queued(FORWARD, 1), 1);
    }

    @Sentence("the first one is done, and so on")
    static void homeTheFirstOfTheRowIsDoneFirst() {
        HearthCache x = new HearthCache();
        own(x, 0, 3, 7);
        x.load(1, 3);
        askToWrite(x, 3, 3, 8);
        askToWrite(x, 2, 3, 9);
        deliver(x, REQUEST, HOME, 3);
        x.deliver(FORWARD, 0);
        x.deliver(ANSWER, HOME);
        deliver(x, FORWARD, 0, 1);
        deliver(x, FORWARD, 1, 1);
        deliver(x, ANSWER, HOME, 2);
        is("core 3 came first", x.owner(3), 3);
        is("core 2 waits", x.waiting(3), 1);
        is("by TAKE from 3", x.queued(FORWARD, 3), 1);
    }

    /** The FETCH is answered late: the owner's PUT, and the READs of all others, wait behind the first READ. */
    @Sentence("requests that come then wait in a row of the line")
    static void homeTheRowHoldsARequestOfEachCore() {
        HearthCache x = new HearthCache();
        own(x, 0, 2, 9);
        readAll(x, 0, 4, 7, 11);
        x.load(1, 2);
        x.deliver(REQUEST, HOME);
        x.load(0, 14);
        x.load(2, 2);
        x.load(3, 2);
        deliver(x, REQUEST, HOME, 4);
        is("four", x.waiting(2), 4);
        x.deliver(FORWARD, 0);
        x.deliver(ANSWER, HOME);
        is("all are done", x.waiting(2), 0);
        is("two sharers by the first READ, four by all", x.counter(OVERFLOWS), 1);
        is("the value", x.home(2), 9);
        is("DATA of line 14, then DONE", x.queued(ANSWER, 0), 2);
        x.pump(20);
        states("all others share it", x, 2, INVALID, SHARED, SHARED, SHARED);
    }

    @Sentence("A line is busy, while a request of it waits for ANSWERs")
    static void homeARequestThatSendsNothingIsNotBusy() {
        HearthCache x = new HearthCache();
        x.load(0, 3);
        askToWrite(x, 1, 4, 1);
        deliver(x, REQUEST, HOME, 2);
        is("READ", x.waiting(3), 0);
        is("WRITE", x.waiting(4), 0);
    }

    // ---- READ

    @Sentence("with an owner other than it, FETCH is sent to the owner, and the line is busy")
    static void homeReadOfAnOwnedLineFetches() {
        HearthCache x = new HearthCache();
        own(x, 3, 8, 41);
        x.load(0, 8);
        x.deliver(REQUEST, HOME);
        is("FETCH", x.queued(FORWARD, 3), 1);
        is("busy", x.waiting(8), 1);
        is("the owner until the ANSWER", x.owner(8), 3);
        is("no sharers until then", x.sharers(8), 0);
        is("no DATA until then", x.queued(ANSWER, 0), 0);
    }

    @Sentence("the home's value is the one that is in it, the owner is no owner, it and the core are the sharers")
    static void homeReadOfAnOwnedLineIsSharedByBoth() {
        HearthCache x = new HearthCache();
        own(x, 3, 8, 41);
        x.load(0, 8);
        x.deliver(REQUEST, HOME);
        x.deliver(FORWARD, 3);
        x.deliver(ANSWER, HOME);
        is("home", x.home(8), 41);
        is("no owner", x.owner(8), NONE);
        is("0 and 3", x.sharers(8), 9);
        x.deliver(ANSWER, 0);
        states("both", x, 8, SHARED, INVALID, INVALID, SHARED);
    }

    @Sentence("if there are no sharers, the core is the owner, and gets DATA, EXCLUSIVE")
    static void homeReadWithoutSharersIsExclusive() {
        HearthCache x = new HearthCache();
        read(x, 2, 8);
        is("the owner", x.owner(8), 2);
        is("no sharers", x.sharers(8), 0);
        is("EXCLUSIVE", x.stateOf(2, 8), EXCLUSIVE);
    }

    @Sentence("otherwise it is a sharer, too, and gets DATA, SHARED")
    static void homeReadWithSharersIsShared() {
        HearthCache x = new HearthCache();
        share(x, 8, 0, 1);
        int forwards = x.counter(TAKEN);
        read(x, 2, 8);
        is("no owner", x.owner(8), NONE);
        is("no FETCH any more", x.counter(TAKEN), forwards);
        is("SHARED", x.stateOf(2, 8), SHARED);
    }

    @Sentence("Without an owner (or if it is itself)")
    static void homeReadOfALineThatWasPutBackIsExclusiveAgain() {
        HearthCache x = new HearthCache();
        fill(x, 0);
        x.load(0, 12);
        x.pump(20);
        is("put back", x.owner(0), NONE);
        x.load(0, 0);
        x.pump(20);
        is("the owner again", x.owner(0), 0);
        is("EXCLUSIVE again", x.stateOf(0, 0), EXCLUSIVE);
    }

    // ---- WRITE

    @Sentence("the line is busy, until an ANSWER of each has come (not at all, if none was sent)")
    static void homeWriteOfALineThatNobodyHasIsDoneAtOnce() {
        HearthCache x = new HearthCache();
        askToWrite(x, 2, 8, 1);
        x.deliver(REQUEST, HOME);
        is("not busy", x.waiting(8), 0);
        is("the owner", x.owner(8), 2);
        is("DATA", x.queued(ANSWER, 2), 1);
        is("no KILL", x.counter(KILLS), 0);
        is("no TAKE", x.counter(TAKEN), 0);
        x.deliver(ANSWER, 2);
        is("MODIFIED", x.stateOf(2, 8), MODIFIED);
    }

    @Sentence("with an owner other than it, TAKE is sent to the owner")
    static void homeWriteOfAnOwnedLineTakes() {
        HearthCache x = new HearthCache();
        own(x, 3, 8, 41);
        askToWrite(x, 0, 8, 1);
        x.deliver(REQUEST, HOME);
        is("TAKE", x.queued(FORWARD, 3), 1);
        is("counted", x.counter(TAKEN), 1);
        is("no KILL", x.counter(KILLS), 0);
        is("busy", x.waiting(8), 1);
        is("the owner until the ANSWER", x.owner(8), 3);
        x.deliver(FORWARD, 3);
        is("TAKE empties", x.stateOf(3, 8), INVALID);
        x.deliver(ANSWER, HOME);
        is("the new owner", x.owner(8), 0);
    }

    @Sentence("otherwise KILL to all sharers other than the core")
    static void homeWriteOfOneOfTwoSharersKillsTheOther() {
        HearthCache x = new HearthCache();
        share(x, 8, 1, 3);
        askToWrite(x, 1, 8, 1);
        x.deliver(REQUEST, HOME);
        is("not itself", x.queued(FORWARD, 1), 0);
        is("the other", x.queued(FORWARD, 3), 1);
        is("one", x.counter(KILLS), 1);
        x.deliver(FORWARD, 3);
        x.deliver(ANSWER, HOME);
        is("done", x.waiting(8), 0);
        is("the owner", x.owner(8), 1);
    }

    @Sentence("otherwise KILL to all sharers other than the core")
    static void homeWriteOfAThirdCoreKillsBothSharers() {
        HearthCache x = new HearthCache();
        share(x, 8, 1, 3);
        askToWrite(x, 0, 8, 1);
        x.deliver(REQUEST, HOME);
        is("1", x.queued(FORWARD, 1), 1);
        is("3", x.queued(FORWARD, 3), 1);
        is("not 2", x.queued(FORWARD, 2), 0);
        is("not itself", x.queued(FORWARD, 0), 0);
    }

    @Sentence("if it has overflowed, to all cores other than it")
    static void homeWriteOfAnOverflowedLineKillsACoreThatNeverHadIt() {
        HearthCache x = new HearthCache();
        share(x, 8, 0, 1, 2);
        askToWrite(x, 0, 8, 1);
        x.deliver(REQUEST, HOME);
        is("not itself", x.queued(FORWARD, 0), 0);
        for (int core = 1; core < 4; core++) {
            is("core " + core, x.queued(FORWARD, core), 1);
        }
        x.deliver(FORWARD, 1);
        x.deliver(FORWARD, 2);
        deliver(x, ANSWER, HOME, 2);
        is("the one of core 3 is missing", x.waiting(8), 1);
        x.deliver(FORWARD, 3);
        x.deliver(ANSWER, HOME);
        is("now it is done", x.owner(8), 0);
    }

    @Sentence("if it has overflowed, to all cores other than it")
    static void homeWriteOfACoreThatIsNoSharerOfAnOverflowedLine() {
        HearthCache x = new HearthCache();
        share(x, 8, 0, 1, 2);
        askToWrite(x, 3, 8, 1);
        x.deliver(REQUEST, HOME);
        is("not itself", x.queued(FORWARD, 3), 0);
        is("three KILLs", x.counter(KILLS), 3);
    }

    @Sentence("the line is busy, until an ANSWER of each has come")
    static void homeWriteWaitsForTheLastAnswer() {
        HearthCache x = new HearthCache();
        share(x, 8, 1, 2);
        askToWrite(x, 0, 8, 1);
        x.deliver(REQUEST, HOME);
        x.deliver(FORWARD, 2);
        x.deliver(ANSWER, HOME);
        is("busy", x.waiting(8), 1);
        is("no owner yet", x.owner(8), NONE);
        is("sharers still", x.sharers(8), 6);
        is("no DATA yet", x.queued(ANSWER, 0), 0);
        x.deliver(FORWARD, 1);
        x.deliver(ANSWER, HOME);
        is("not busy", x.waiting(8), 0);
        is("the owner", x.owner(8), 0);
        is("no sharers", x.sharers(8), 0);
        is("DATA", x.queued(ANSWER, 0), 1);
    }

    @Sentence("the line is busy, until an ANSWER of each has come")
    static void homeAnswersOfTwoLinesAreCountedApart() {
        HearthCache x = new HearthCache();
        share(x, 8, 1, 2);
        share(x, 4, 1, 2);
        askToWrite(x, 0, 8, 1);
        askToWrite(x, 3, 4, 1);
        deliver(x, REQUEST, HOME, 2);
        x.deliver(FORWARD, 1);
        x.deliver(FORWARD, 1);
        deliver(x, ANSWER, HOME, 2);
        is("line 8 waits", x.waiting(8), 1);
        is("line 4 waits", x.waiting(4), 1);
        x.deliver(FORWARD, 2);
        x.deliver(ANSWER, HOME);
        is("line 8 is done", x.owner(8), 0);
        is("line 4 waits still", x.owner(4), NONE);
    }

    @Sentence("a value in one becomes the home's")
    static void homeWriteTakesTheValueOfTheAnswer() {
        HearthCache x = new HearthCache();
        own(x, 3, 8, 41);
        own(x, 0, 8, 42);
        is("that of TAKE", x.home(8), 41);
        is("that of the owner", x.truth(8), 42);
    }

    @Sentence("a value in one becomes the home's")
    static void homeAnswersOfKillsLeaveTheValue() {
        HearthCache x = new HearthCache();
        own(x, 3, 8, 41);
        read(x, 2, 8);
        askToWrite(x, 0, 8, 42);
        x.pump(20);
        is("the home's", x.home(8), 41);
        is("DATA with it", x.valueIn(0, 8), 41);
    }

    @Sentence("a value in one becomes the home's")
    static void homeAValueOf0IsAValue() {
        HearthCache x = new HearthCache();
        own(x, 0, 8, 41);
        own(x, 1, 8, 0);
        is("41 by TAKE", x.home(8), 41);
        own(x, 2, 8, 5);
        is("0 by TAKE", x.home(8), 0);
        own(x, 2, 8, 0);
        own(x, 1, 8, 6);
        own(x, 1, 8, 0);
        read(x, 3, 8);
        is("0 by FETCH", x.home(8), 0);
        is("read", x.valueIn(3, 8), 0);
    }

    @Sentence("a value in one becomes the home's")
    static void homeAValueOf999IsKept() {
        HearthCache x = new HearthCache();
        own(x, 0, 15, 999);
        is("by FETCH", read(x, 3, 15), 999);
        is("at the home", x.home(15), 999);
        own(x, 3, 15, 998);
        own(x, 0, 15, 1);
        is("by TAKE", x.home(15), 998);
    }

    @Sentence("Then the core is the owner, there are no sharers, and it gets DATA, MODIFIED.")
    static void homeWriteLeavesNoSharers() {
        HearthCache x = new HearthCache();
        share(x, 8, 1, 2, 3);
        askToWrite(x, 1, 8, 1);
        x.pump(20);
        is("the owner", x.owner(8), 1);
        is("no sharers", x.sharers(8), 0);
        states("DATA", x, 8, INVALID, MODIFIED, INVALID, INVALID);
    }

    // ---- PUT

    @Sentence("if the core is the owner, the value becomes the home's, and there is no owner")
    static void homePutOfTheOwnerIsTaken() {
        HearthCache x = new HearthCache();
        own(x, 0, 2, 77);
        readAll(x, 0, 4, 7, 11);
        x.load(0, 14);
        x.deliver(REQUEST, HOME);
        is("value", x.home(2), 77);
        is("no owner", x.owner(2), NONE);
        is("no sharers", x.sharers(2), 0);
        is("DONE", x.queued(ANSWER, 0), 1);
        is("not busy", x.waiting(2), 0);
    }

    @Sentence("if the core is the owner, the value becomes the home's")
    static void homePutOf0IsTaken() {
        HearthCache x = new HearthCache();
        own(x, 1, 2, 77);
        own(x, 0, 2, 0);
        is("before", x.home(2), 77);
        readAll(x, 0, 4, 7, 11);
        x.load(0, 14);
        is("truth while LEAVING", x.truth(2), 0);
        x.pump(20);
        is("after", x.home(2), 0);
        is("truth", x.truth(2), 0);
    }

    /** The line went to core 1 while core 0 let it leave, and was stored to there, before the PUT is done. */
    @Sentence("if the core is the owner, the value becomes the home's, and there is no owner; in any case the core gets DONE")
    static void homePutOfACoreThatIsNoOwnerAnyMoreIsJustDone() {
        HearthCache x = new HearthCache();
        own(x, 0, 2, 9);
        readAll(x, 0, 4, 7, 11);
        askToWrite(x, 1, 2, 5);
        x.load(3, 2);
        x.load(0, 14);
        deliver(x, REQUEST, HOME, 3);
        is("WRITE, READ and PUT", x.waiting(2), 3);
        x.deliver(FORWARD, 0);
        x.deliver(ANSWER, HOME);
        x.deliver(ANSWER, 1);
        is("stored", x.drain(1), true);
        x.deliver(FORWARD, 1);
        x.deliver(ANSWER, HOME);
        is("not the value of PUT", x.home(2), 5);
        is("no owner by the READ", x.owner(2), NONE);
        is("sharers stay", x.sharers(2), 10);
        is("DONE", x.deliver(ANSWER, 0), 2);
        is("not LEAVING", x.stateOf(0, 2), INVALID);
    }

    @Sentence("if the core is the owner, the value becomes the home's, and there is no owner; in any case the core gets DONE")
    static void homePutDoesNotTakeAnotherOwnerAway() {
        HearthCache x = new HearthCache();
        own(x, 0, 2, 9);
        readAll(x, 0, 4, 7, 11);
        askToWrite(x, 1, 2, 5);
        x.load(0, 14);
        deliver(x, REQUEST, HOME, 2);
        x.deliver(FORWARD, 0);
        x.deliver(ANSWER, HOME);
        is("the writer stays", x.owner(2), 1);
        is("DONE", x.deliver(ANSWER, 0), 2);
        is("the writer goes on", x.deliver(ANSWER, 1), 2);
        is("its store", x.drain(1), true);
    }
}
