/** Boundary cases of the promises 9 to 20: messages, and what there is. */
public final class Promises9To20BoundaryTest extends Cases {
    public static void main(String[] args) {
        runAll(Promises9To20BoundaryTest.class);
    }

    // ---- promise 9: deliver

    @Sentence("Throws `IndexOutOfBoundsException` if there is no such receiver")
    static void promise9DeliverReceiverTooSmall() {
        HearthCache x = new HearthCache();
        noneBelow0(receiver -> x.deliver(ANSWER, receiver));
    }

    @Sentence("Throws `IndexOutOfBoundsException` if there is no such receiver")
    static void promise9DeliverReceiverTooLarge() {
        HearthCache x = new HearthCache();
        noneAbove(4, receiver -> x.deliver(ANSWER, receiver));
    }

    @Sentence("Throws `IllegalArgumentException` if of is out of range")
    static void promise9DeliverClassTooSmall() {
        HearthCache x = new HearthCache();
        x.load(0, 3);
        tooSmallBelow(0, of -> x.deliver(of, HOME));
    }

    @Sentence("Throws `IllegalArgumentException` if of is out of range")
    static void promise9DeliverClassTooLarge() {
        HearthCache x = new HearthCache();
        x.load(0, 3);
        tooLargeAbove(2, of -> x.deliver(of, HOME));
    }

    @Sentence("Throws `IllegalStateException` if the queue is empty")
    static void promise9DeliverFromQueuesThatNeverHadAny() {
        HearthCache x = new HearthCache();
        for (int of = 0; of < 3; of++) {
            for (int receiver = 0; receiver < 5; receiver++) {
                int one = of;
                int to = receiver;
                badState("class " + of + ", receiver " + receiver, () -> x.deliver(one, to));
            }
        }
    }

    @Sentence("Throws `IllegalStateException` if the queue is empty")
    static void promise9DeliverFromAQueueThatIsEmptyAgain() {
        HearthCache x = new HearthCache();
        x.load(0, 3);
        x.load(0, 7);
        x.deliver(REQUEST, HOME);
        x.deliver(REQUEST, HOME);
        badState("both REQUESTs are delivered", () -> x.deliver(REQUEST, HOME));
        x.deliver(ANSWER, 0);
        is("one is left", x.deliver(ANSWER, 0), 7);
        badState("both ANSWERs are delivered", () -> x.deliver(ANSWER, 0));
    }

    @Sentence("Throws `IllegalStateException` if the queue is empty")
    static void promise9DeliverFromAnEmptyQueueWhileOthersHaveSome() {
        HearthCache x = new HearthCache();
        x.load(0, 3);
        x.deliver(REQUEST, HOME);
        badState("no REQUEST", () -> x.deliver(REQUEST, HOME));
        badState("no FORWARD", () -> x.deliver(FORWARD, 0));
        badState("no ANSWER for core 1", () -> x.deliver(ANSWER, 1));
        badState("no ANSWER for the home", () -> x.deliver(ANSWER, HOME));
        is("ANSWER for core 0", x.deliver(ANSWER, 0), 3);
    }

    @Sentence("Returns the line of the message.")
    static void promise9DeliverTheLeastAndTheGreatestLine() {
        HearthCache x = new HearthCache();
        for (int line : new int[] {0, 15}) {
            own(x, 0, line, 1);
            x.load(3, line);
            is("REQUEST", x.deliver(REQUEST, HOME), line);
            is("FORWARD", x.deliver(FORWARD, 0), line);
            is("ANSWER to the home", x.deliver(ANSWER, HOME), line);
            is("ANSWER to core 3", x.deliver(ANSWER, 3), line);
        }
    }

    // ---- promise 10: pump

    @Sentence("Throws `IllegalArgumentException` if rounds is out of range")
    static void promise10PumpRoundsTooSmall() {
        HearthCache x = new HearthCache();
        tooSmallBelow(1, x::pump);
        badArgument("-1", () -> x.pump(-1));
    }

    @Sentence("Throws `IllegalArgumentException` if rounds is out of range")
    static void promise10PumpRoundsTooLarge() {
        HearthCache x = new HearthCache();
        tooLargeAbove(20, x::pump);
    }

    @Sentence("Returns how many were delivered.")
    static void promise10PumpWhileThereAreNoMessages() {
        HearthCache x = new HearthCache();
        is("one round", x.pump(1), 0);
        is("twenty rounds", x.pump(20), 0);
    }

    @Sentence("- `rounds`: 1 to 20")
    static void promise10PumpOneRound() {
        HearthCache x = new HearthCache();
        for (int line : new int[] {0, 5, 3, 9}) {
            x.load(0, line);
        }
        is("one REQUEST", x.pump(1), 1);
        is("three are left", x.queued(REQUEST, HOME), 3);
        is("its DATA is there", x.queued(ANSWER, 0), 1);
    }

    /** 32 REQUESTs are on their way, and of each queue one is delivered in a round: so 12 are left. */
    @Sentence("in a round one of each queue that has one when it is its turn")
    static void promise10PumpTwentyRoundsTakeTwentyOfAQueue() {
        HearthCache x = new HearthCache();
        int[] order = {0, 2, 1, 3};
        for (int core = 0; core < 4; core++) {
            for (int at : order) {
                read(x, core, 4 * core + at);
            }
        }
        for (int core = 0; core < 4; core++) {
            for (int at : order) {
                x.load(core, 4 * ((core + 1) % 4) + at);
            }
        }
        is("all", x.queued(REQUEST, HOME), 32);
        x.pump(20);
        is("the rest", x.queued(REQUEST, HOME), 12);
        x.pump(12);
        is("none", x.queued(REQUEST, HOME), 0);
    }

    @Sentence("in a round one of each queue that has one when it is its turn, those of ANSWERs first, then of FORWARDs, then of REQUESTs")
    static void promise10PumpAnswersComeAheadOfForwards() {
        HearthCache x = new HearthCache();
        own(x, 0, 3, 7);
        x.load(1, 3);
        x.deliver(REQUEST, HOME);
        is("the FETCH", x.pump(1), 1);
        is("its ANSWER is for the next round", x.queued(ANSWER, HOME), 1);
    }

    @Sentence("in a round one of each queue that has one when it is its turn, those of ANSWERs first, then of FORWARDs, then of REQUESTs")
    static void promise10PumpForwardsComeAheadOfRequests() {
        HearthCache x = new HearthCache();
        own(x, 0, 3, 7);
        x.load(1, 3);
        is("the READ", x.pump(1), 1);
        is("its FETCH is for the next round", x.queued(FORWARD, 0), 1);
    }

    @Sentence("in a round one of each queue that has one when it is its turn, those of ANSWERs first, then of FORWARDs, then of REQUESTs")
    static void promise10PumpAnswersComeAheadOfRequests() {
        HearthCache x = new HearthCache();
        x.load(1, 3);
        is("the READ", x.pump(1), 1);
        is("its DATA is for the next round", x.queued(ANSWER, 1), 1);
    }

    /** The home's ANSWER ends the first READ, and the WRITE of the row sends KILLs, whose turn is behind it. */
    @Sentence("in a round one of each queue that has one when it is its turn")
    static void promise10PumpWhatIsSentAheadOfItsTurnIsDeliveredInTheRound() {
        HearthCache x = new HearthCache();
        own(x, 0, 3, 7);
        x.load(1, 3);
        askToWrite(x, 2, 3, 8);
        deliver(x, REQUEST, HOME, 2);
        x.deliver(FORWARD, 0);
        is("the ANSWER, and two KILLs", x.pump(1), 3);
        is("the KILLs are answered", x.queued(ANSWER, HOME), 2);
        is("DATA is for the next round", x.queued(ANSWER, 1), 1);
    }

    @Sentence("of each class by rising receivers")
    static void promise10PumpTheHomeIsTheLastReceiver() {
        HearthCache x = new HearthCache();
        own(x, 0, 3, 7);
        x.load(1, 3);
        x.deliver(REQUEST, HOME);
        x.deliver(FORWARD, 0);
        is("the ANSWER to the home", x.pump(1), 1);
        is("DATA is for the next round", x.queued(ANSWER, 1), 1);
        is("DATA", x.pump(1), 1);
    }

    @Sentence("of each class by rising receivers")
    static void promise10PumpForwardsOfAllReceiversInARound() {
        HearthCache x = new HearthCache();
        share(x, 3, 0, 1, 2);
        askToWrite(x, 3, 3, 8);
        is("WRITE", x.pump(1), 1);
        is("KILLs", x.pump(1), 3);
        is("ANSWERs in the home's queue", x.queued(ANSWER, HOME), 3);
    }

    /** KILLs are answered by cores 0 and 1 in one round: core 0 comes first, so its ANSWER is the first. */
    @Sentence("of each class by rising receivers")
    static void promise10PumpForwardsGoByRisingReceivers() {
        HearthCache x = new HearthCache();
        own(x, 0, 3, 7);
        own(x, 1, 5, 7);
        x.load(2, 5);
        x.load(2, 3);
        deliver(x, REQUEST, HOME, 2);
        is("both FETCHes", x.pump(1), 2);
        is("the ANSWER of core 0 is the first", x.deliver(ANSWER, HOME), 3);
        is("then that of core 1", x.deliver(ANSWER, HOME), 5);
    }

    // ---- promise 11: queued

    @Sentence("Throws `IndexOutOfBoundsException` if there is no such receiver")
    static void promise11QueuedReceiverTooSmall() {
        HearthCache x = new HearthCache();
        noneBelow0(receiver -> x.queued(ANSWER, receiver));
    }

    @Sentence("Throws `IndexOutOfBoundsException` if there is no such receiver")
    static void promise11QueuedReceiverTooLarge() {
        HearthCache x = new HearthCache();
        noneAbove(4, receiver -> x.queued(ANSWER, receiver));
    }

    @Sentence("Throws `IllegalArgumentException` if of is out of range")
    static void promise11QueuedClassTooSmall() {
        HearthCache x = new HearthCache();
        tooSmallBelow(0, of -> x.queued(of, 0));
    }

    @Sentence("Throws `IllegalArgumentException` if of is out of range")
    static void promise11QueuedClassTooLarge() {
        HearthCache x = new HearthCache();
        tooLargeAbove(2, of -> x.queued(of, 0));
    }

    @Sentence("Returns how many messages a queue has.")
    static void promise11QueuedFrom0To16AndBack() {
        HearthCache x = new HearthCache();
        int sent = 0;
        for (int core = 0; core < 4; core++) {
            for (int line : new int[] {0, 5, 3, 9}) {
                is("REQUESTs", x.queued(REQUEST, HOME), sent);
                x.load(core, line);
                sent++;
            }
        }
        for (int left = 16; left > 0; left--) {
            is("REQUESTs", x.queued(REQUEST, HOME), left);
            x.deliver(REQUEST, HOME);
        }
        is("none", x.queued(REQUEST, HOME), 0);
    }

    // ---- promise 12: stateOf

    @Sentence("Throws `IndexOutOfBoundsException` if there is no such core or line")
    static void promise12StateOfCoreTooSmall() {
        HearthCache x = new HearthCache();
        noneBelow0(core -> x.stateOf(core, 0));
    }

    @Sentence("Throws `IndexOutOfBoundsException` if there is no such core or line")
    static void promise12StateOfCoreTooLarge() {
        HearthCache x = new HearthCache();
        noneAbove(3, core -> x.stateOf(core, 0));
    }

    @Sentence("Throws `IndexOutOfBoundsException` if there is no such core or line")
    static void promise12StateOfLineTooSmall() {
        HearthCache x = new HearthCache();
        noneBelow0(line -> x.stateOf(0, line));
    }

    @Sentence("Throws `IndexOutOfBoundsException` if there is no such core or line")
    static void promise12StateOfLineTooLarge() {
        HearthCache x = new HearthCache();
        noneAbove(15, line -> x.stateOf(0, line));
    }

    @Sentence("Returns INVALID to WAITS_WRITE, 10 more if it is LEAVING.")
    static void promise12StateOfEachState() {
        HearthCache x = new HearthCache();
        is("INVALID", x.stateOf(3, 15), 0);
        x.load(3, 15);
        is("WAITS_READ", x.stateOf(3, 15), 4);
        x.pump(20);
        is("EXCLUSIVE", x.stateOf(3, 15), 2);
        x.add(3, 15, 1);
        is("MODIFIED", x.stateOf(3, 15), 3);
        read(x, 0, 15);
        is("SHARED", x.stateOf(3, 15), 1);
        x.add(3, 15, 1);
        is("WAITS_WRITE", x.stateOf(3, 15), 5);
    }

    @Sentence("Returns INVALID to WAITS_WRITE, 10 more if it is LEAVING.")
    static void promise12StateOfALeavingLine() {
        HearthCache x = new HearthCache();
        fill(x, 0);
        is("EXCLUSIVE", x.stateOf(0, 0), 2);
        x.load(0, 12);
        is("LEAVING, with the value 0", x.stateOf(0, 0), 10);
        is("not for core 1", x.stateOf(1, 0), 0);
        is("not the next line", x.stateOf(0, 1), 0);
    }

    // ---- promise 13: valueIn

    @Sentence("Throws `IndexOutOfBoundsException` if there is no such core or line")
    static void promise13ValueInCoreTooSmall() {
        HearthCache x = new HearthCache();
        noneBelow0(core -> x.valueIn(core, 0));
    }

    @Sentence("Throws `IndexOutOfBoundsException` if there is no such core or line")
    static void promise13ValueInCoreTooLarge() {
        HearthCache x = new HearthCache();
        noneAbove(3, core -> x.valueIn(core, 0));
    }

    @Sentence("Throws `IndexOutOfBoundsException` if there is no such core or line")
    static void promise13ValueInLineTooSmall() {
        HearthCache x = new HearthCache();
        noneBelow0(line -> x.valueIn(0, line));
    }

    @Sentence("Throws `IndexOutOfBoundsException` if there is no such core or line")
    static void promise13ValueInLineTooLarge() {
        HearthCache x = new HearthCache();
        noneAbove(15, line -> x.valueIn(0, line));
    }

    @Sentence("Returns the value; NONE if it is neither SHARED nor EXCLUSIVE nor MODIFIED.")
    static void promise13ValueInOfLinesWithAValue() {
        HearthCache x = new HearthCache();
        x.load(3, 15);
        x.pump(20);
        is("EXCLUSIVE, 0", x.valueIn(3, 15), 0);
        own(x, 3, 15, 999);
        is("MODIFIED, 999", x.valueIn(3, 15), 999);
        read(x, 0, 15);
        is("SHARED", x.valueIn(3, 15), 999);
        is("SHARED", x.valueIn(0, 15), 999);
    }

    @Sentence("Returns the value; NONE if it is neither SHARED nor EXCLUSIVE nor MODIFIED.")
    static void promise13ValueInOfLinesWithoutAValue() {
        HearthCache x = new HearthCache();
        is("INVALID", x.valueIn(0, 3), NONE);
        x.load(0, 3);
        is("it waits to be read", x.valueIn(0, 3), NONE);
        x.add(0, 5, 1);
        is("it waits to be written", x.valueIn(0, 5), NONE);
        x.store(0, 7, 8);
        is("a store in the buffer", x.valueIn(0, 7), NONE);
    }

    @Sentence("Returns the value; NONE if it is neither SHARED nor EXCLUSIVE nor MODIFIED.")
    static void promise13ValueInOfASharedLineThatWaitsToBeWritten() {
        HearthCache x = new HearthCache();
        share(x, 3, 0, 1);
        is("SHARED", x.valueIn(0, 3), 0);
        x.add(0, 3, 1);
        is("it waits", x.valueIn(0, 3), NONE);
    }

    @Sentence("Returns the value; NONE if it is neither SHARED nor EXCLUSIVE nor MODIFIED.")
    static void promise13ValueInOfALeavingLine() {
        HearthCache x = new HearthCache();
        fill(x, 0);
        is("EXCLUSIVE", x.valueIn(0, 0), 0);
        x.load(0, 12);
        is("LEAVING", x.valueIn(0, 0), NONE);
    }

    // ---- promise 14: home

    @Sentence("Throws `IndexOutOfBoundsException` if there is no such line")
    static void promise14HomeLineTooSmall() {
        HearthCache x = new HearthCache();
        noneBelow0(x::home);
    }

    @Sentence("Throws `IndexOutOfBoundsException` if there is no such line")
    static void promise14HomeLineTooLarge() {
        HearthCache x = new HearthCache();
        noneAbove(15, x::home);
    }

    @Sentence("Returns the value of a line at the home.")
    static void promise14HomeOfTheLeastAndTheGreatest() {
        HearthCache x = new HearthCache();
        own(x, 0, 0, 1);
        own(x, 0, 15, 999);
        is("not told of line 0", x.home(0), 0);
        is("not told of line 15", x.home(15), 0);
        read(x, 1, 0);
        read(x, 1, 15);
        is("line 0", x.home(0), 1);
        is("line 15", x.home(15), 999);
    }

    // ---- promise 15: owner

    @Sentence("Throws `IndexOutOfBoundsException` if there is no such line")
    static void promise15OwnerLineTooSmall() {
        HearthCache x = new HearthCache();
        noneBelow0(x::owner);
    }

    @Sentence("Throws `IndexOutOfBoundsException` if there is no such line")
    static void promise15OwnerLineTooLarge() {
        HearthCache x = new HearthCache();
        noneAbove(15, x::owner);
    }

    @Sentence("Returns the core; NONE if there is none.")
    static void promise15OwnerOfTheLeastAndTheGreatest() {
        HearthCache x = new HearthCache();
        own(x, 0, 0, 1);
        read(x, 3, 15);
        is("core 0", x.owner(0), 0);
        is("core 3", x.owner(15), 3);
        is("none", x.owner(7), NONE);
        read(x, 1, 0);
        is("none any more", x.owner(0), NONE);
    }

    @Sentence("Returns the owner of a line, as the home knows it.")
    static void promise15OwnerIsKnownBeforeDataHasCome() {
        HearthCache x = new HearthCache();
        x.load(2, 3);
        is("READ has not come", x.owner(3), NONE);
        x.deliver(REQUEST, HOME);
        is("DATA has not come", x.owner(3), 2);
        is("it waits", x.stateOf(2, 3), WAITS_READ);
    }

    @Sentence("Returns the owner of a line, as the home knows it.")
    static void promise15OwnerIsKnownUntilPutHasCome() {
        HearthCache x = new HearthCache();
        fill(x, 0);
        x.load(0, 12);
        is("LEAVING", x.owner(0), 0);
        x.deliver(REQUEST, HOME);
        is("PUT has come", x.owner(0), NONE);
    }

    // ---- promise 16: sharers

    @Sentence("Throws `IndexOutOfBoundsException` if there is no such line")
    static void promise16SharersLineTooSmall() {
        HearthCache x = new HearthCache();
        noneBelow0(x::sharers);
    }

    @Sentence("Throws `IndexOutOfBoundsException` if there is no such line")
    static void promise16SharersLineTooLarge() {
        HearthCache x = new HearthCache();
        noneAbove(15, x::sharers);
    }

    @Sentence("Returns a set: the core k counts 2 to the power of k; 15 if it has overflowed.")
    static void promise16SharersFromNoneToOverflow() {
        HearthCache x = new HearthCache();
        is("none", x.sharers(15), 0);
        read(x, 0, 15);
        is("an owner is none", x.sharers(15), 0);
        read(x, 3, 15);
        is("1 and 8", x.sharers(15), 9);
        read(x, 1, 15);
        is("overflowed", x.sharers(15), 15);
        is("line 0 has none", x.sharers(0), 0);
    }

    // ---- promise 17: waiting

    @Sentence("Throws `IndexOutOfBoundsException` if there is no such line")
    static void promise17WaitingLineTooSmall() {
        HearthCache x = new HearthCache();
        noneBelow0(x::waiting);
    }

    @Sentence("Throws `IndexOutOfBoundsException` if there is no such line")
    static void promise17WaitingLineTooLarge() {
        HearthCache x = new HearthCache();
        noneAbove(15, x::waiting);
    }

    @Sentence("Returns how many requests of a line wait at the home, the one for which it is busy, too.")
    static void promise17WaitingFrom0To3AndBack() {
        HearthCache x = new HearthCache();
        own(x, 0, 15, 1);
        for (int core = 1; core < 4; core++) {
            x.add(core, 15, 1);
            is("in the queue it does not wait at the home", x.waiting(15), core - 1);
            x.deliver(REQUEST, HOME);
            is("now it does", x.waiting(15), core);
        }
        for (int left = 3; left > 0; left--) {
            is("one less", x.waiting(15), left);
            x.deliver(FORWARD, 3 - left);
            if (left < 3) {
                is("the TAKE is remembered", x.queued(ANSWER, HOME), 0);
                x.deliver(ANSWER, 3 - left);
            }
            x.deliver(ANSWER, HOME);
        }
        is("none", x.waiting(15), 0);
        is("none of line 0", x.waiting(0), 0);
    }

    // ---- promise 18: truth

    @Sentence("Throws `IndexOutOfBoundsException` if there is no such line")
    static void promise18TruthLineTooSmall() {
        HearthCache x = new HearthCache();
        noneBelow0(x::truth);
    }

    @Sentence("Throws `IndexOutOfBoundsException` if there is no such line")
    static void promise18TruthLineTooLarge() {
        HearthCache x = new HearthCache();
        noneAbove(15, x::truth);
    }

    @Sentence("if there is an owner, that in its cache, if it is EXCLUSIVE or MODIFIED there")
    static void promise18TruthIsTheOwners() {
        HearthCache x = new HearthCache();
        own(x, 0, 15, 999);
        own(x, 0, 15, 5);
        is("MODIFIED", x.truth(15), 5);
        is("the home has another one", x.home(15), 0);
        own(x, 1, 15, 0);
        is("0 of the new owner", x.truth(15), 0);
        is("5 at the home", x.home(15), 5);
    }

    @Sentence("if there is an owner, that in its cache, if it is EXCLUSIVE or MODIFIED there")
    static void promise18TruthOfAnExclusiveLine() {
        HearthCache x = new HearthCache();
        own(x, 1, 0, 7);
        fill(x, 1);
        x.load(1, 12);
        x.pump(20);
        is("put back", x.owner(0), NONE);
        read(x, 2, 0);
        is("EXCLUSIVE", x.stateOf(2, 0), EXCLUSIVE);
        is("truth", x.truth(0), 7);
    }

    @Sentence("otherwise that with which it is LEAVING there")
    static void promise18TruthOfALeavingLine() {
        HearthCache x = new HearthCache();
        own(x, 1, 0, 7);
        own(x, 0, 0, 0);
        readAll(x, 0, 5, 3, 9);
        x.load(0, 12);
        is("LEAVING", x.stateOf(0, 0), LEAVING);
        is("0, not the home's", x.truth(0), 0);
        is("the home's", x.home(0), 7);
    }

    @Sentence("otherwise that of an ANSWER with a value for the line that is in the queue of the home")
    static void promise18TruthIsOnItsWay() {
        HearthCache x = new HearthCache();
        own(x, 1, 3, 7);
        own(x, 0, 3, 0);
        askToWrite(x, 2, 3, 5);
        x.deliver(REQUEST, HOME);
        x.deliver(FORWARD, 0);
        is("core 0 has it no more", x.stateOf(0, 3), INVALID);
        is("it is the owner still", x.owner(3), 0);
        is("0 is in the ANSWER", x.truth(3), 0);
        is("7 at the home", x.home(3), 7);
        x.deliver(ANSWER, HOME);
        is("the new owner has none yet", x.truth(3), 0);
    }

    /** The home's queue has ANSWERs of lines 3 (without a value), 5 (with one) and 7 (with one), in this order. */
    @Sentence("otherwise that of an ANSWER with a value for the line that is in the queue of the home")
    static void promise18TruthIsNotInAnAnswerOfAnotherLine() {
        HearthCache x = new HearthCache();
        share(x, 3, 0, 1);
        own(x, 0, 5, 50);
        own(x, 0, 7, 70);
        askToWrite(x, 1, 3, 1);
        x.add(2, 5, 1);
        x.add(2, 7, 1);
        deliver(x, REQUEST, HOME, 3);
        deliver(x, FORWARD, 0, 3);
        is("three ANSWERs", x.queued(ANSWER, HOME), 3);
        is("line 3", x.truth(3), 0);
        is("line 5", x.truth(5), 50);
        is("line 7", x.truth(7), 70);
    }

    @Sentence("otherwise that of an ANSWER with a value for the line that is in the queue of the home; the home's, if there is none of these")
    static void promise18TruthIsTheHomesWhileDataIsOnItsWay() {
        HearthCache x = new HearthCache();
        own(x, 0, 3, 8);
        askToWrite(x, 1, 3, 5);
        x.deliver(REQUEST, HOME);
        x.deliver(FORWARD, 0);
        x.deliver(ANSWER, HOME);
        is("an owner that waits", x.stateOf(x.owner(3), 3), WAITS_WRITE);
        is("the home's", x.truth(3), 8);
    }

    @Sentence("or no owner")
    static void promise18TruthWithoutAnOwnerIsTheHomes() {
        HearthCache x = new HearthCache();
        is("of a new object", x.truth(0), 0);
        own(x, 0, 3, 8);
        read(x, 1, 3);
        is("no owner", x.owner(3), NONE);
        is("the home's", x.truth(3), 8);
    }

    @Sentence("Returns the value that a line has for all")
    static void promise18TruthDoesNotLookIntoBuffersAndTransactions() {
        HearthCache x = new HearthCache();
        own(x, 0, 3, 8);
        x.store(0, 3, 9);
        is("a store in the buffer", x.truth(3), 8);
        x.drain(0);
        x.begin(0);
        x.store(0, 3, 7);
        is("a store of a transaction", x.truth(3), 9);
        x.end(0);
        is("ended", x.truth(3), 7);
    }

    // ---- promise 19: isCoherent

    /** A copy of a line that is on its way to one core while another one asks to write it never comes too late. */
    @Sentence("no line is EXCLUSIVE or MODIFIED in one, and SHARED, EXCLUSIVE or MODIFIED in another one")
    static void promise19IsCoherentWhileKillGoesAheadOfData() {
        HearthCache x = new HearthCache();
        share(x, 3, 1, 2);
        x.load(0, 3);
        x.deliver(REQUEST, HOME);
        askToWrite(x, 1, 3, 8);
        x.deliver(REQUEST, HOME);
        for (int core : new int[] {0, 2, 3}) {
            x.deliver(FORWARD, core);
            is("KILL came", x.isCoherent(), true);
        }
        deliver(x, ANSWER, HOME, 3);
        x.deliver(ANSWER, 1);
        is("MODIFIED in 1", x.drain(1), true);
        is("in order", x.isCoherent(), true);
        x.deliver(ANSWER, 0);
        is("core 0 has none", x.stateOf(0, 3), INVALID);
        is("in order", x.isCoherent(), true);
    }

    @Sentence("all that are SHARED or EXCLUSIVE have the same value, for each line")
    static void promise19IsCoherentWhileLinesHaveUnlikeValues() {
        HearthCache x = new HearthCache();
        own(x, 0, 0, 1);
        own(x, 0, 15, 2);
        is("MODIFIED", x.isCoherent(), true);
        share(x, 0, 1, 2, 3);
        share(x, 15, 1, 2, 3);
        is("SHARED by all", x.isCoherent(), true);
        own(x, 3, 0, 5);
        is("MODIFIED in the last core", x.isCoherent(), true);
        x.load(0, 0);
        x.add(1, 0, 1);
        is("while others wait", x.isCoherent(), true);
    }

    // ---- promise 20: counter

    @Sentence("Throws `IllegalArgumentException` if which is out of range")
    static void promise20CounterTooSmall() {
        HearthCache x = new HearthCache();
        tooSmallBelow(0, x::counter);
    }

    @Sentence("Throws `IllegalArgumentException` if which is out of range")
    static void promise20CounterTooLarge() {
        HearthCache x = new HearthCache();
        tooLargeAbove(9, x::counter);
    }

    private static void counters(HearthCache x, int... due) {
        for (int which = 0; which < 10; which++) {
            is("counter " + which, x.counter(which), due[which]);
        }
    }

    @Sentence("0 loads that gave a value from a cache")
    static void promise20CounterOfLoadsDoesNotCountOthers() {
        HearthCache x = new HearthCache();
        x.load(0, 3);
        x.pump(20);
        x.store(0, 3, 7);
        x.load(0, 3);
        x.store(0, 5, 7);
        x.load(0, 5);
        is("asked for, and from the buffer", x.counter(LOADS), 0);
        x.drain(0);
        x.load(0, 3);
        is("from the cache", x.counter(LOADS), 1);
    }

    @Sentence("1 READs and 2 WRITEs that were sent")
    static void promise20CounterOfReadsAndWritesCountsWhatIsSent() {
        HearthCache x = new HearthCache();
        x.load(0, 3);
        x.load(0, 3);
        x.add(1, 3, 1);
        x.add(1, 3, 1);
        counters(x, 0, 1, 1, 0, 0, 0, 0, 0, 0, 0);
        x.pump(20);
        counters(x, 0, 1, 1, 0, 0, 1, 0, 0, 0, 0);
    }

    @Sentence("3 PUTs, 4 KILLs, 5 FETCHes and TAKEs")
    static void promise20CounterOfPutsCountsNoSilentOnes() {
        HearthCache x = new HearthCache();
        read(x, 1, 0);
        fill(x, 0);
        x.load(0, 12);
        is("SHARED", x.counter(PUTS), 0);
        x.load(0, 15);
        is("EXCLUSIVE", x.counter(PUTS), 1);
    }

    @Sentence("3 PUTs, 4 KILLs, 5 FETCHes and TAKEs")
    static void promise20CounterOfKillsFetchesAndTakes() {
        HearthCache x = new HearthCache();
        own(x, 0, 3, 1);
        read(x, 1, 3);
        counters(x, 1, 1, 1, 0, 0, 1, 0, 0, 0, 0);
        own(x, 2, 3, 1);
        counters(x, 1, 1, 2, 0, 2, 1, 0, 0, 0, 0);
        own(x, 3, 3, 1);
        counters(x, 1, 1, 3, 0, 2, 2, 0, 0, 0, 0);
    }

    @Sentence("6 READs by strides, which are READs, too")
    static void promise20CounterOfReadsByStrides() {
        HearthCache x = new HearthCache();
        for (int line = 0; line <= 6; line += 3) {
            x.load(0, line);
        }
        counters(x, 0, 4, 0, 0, 0, 0, 1, 0, 0, 0);
    }

    @Sentence("7 transactions that ended well, 8 such that ended broken")
    static void promise20CounterOfTransactionsCountsThemWhenTheyEnd() {
        HearthCache x = new HearthCache();
        share(x, 3, 0, 1);
        x.begin(0);
        x.load(0, 3);
        own(x, 1, 3, 1);
        is("broken, but not ended", x.counter(BROKEN), 0);
        x.end(0);
        is("ended broken", x.counter(BROKEN), 1);
        x.begin(0);
        x.store(0, 5, 1);
        x.end(0);
        is("it goes on", x.counter(WELL), 0);
        x.pump(20);
        x.end(0);
        is("ended well", x.counter(WELL), 1);
        x.begin(1);
        x.end(1);
        is("of all cores", x.counter(WELL), 2);
        is("one was broken", x.counter(BROKEN), 1);
    }

    @Sentence("9 times that a line has overflowed")
    static void promise20CounterOfOverflows() {
        HearthCache x = new HearthCache();
        share(x, 3, 0, 1);
        is("two sharers", x.counter(OVERFLOWS), 0);
        read(x, 2, 3);
        is("three", x.counter(OVERFLOWS), 1);
        read(x, 3, 3);
        is("four", x.counter(OVERFLOWS), 1);
        share(x, 5, 0, 1, 2);
        is("another line", x.counter(OVERFLOWS), 2);
    }
}
