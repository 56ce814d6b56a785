/** Boundary cases of "What it is", of the constants, and of "Cores, lines, messages". */
public final class TermsBoundaryTest extends Cases {
    public static void main(String[] args) {
        runAll(TermsBoundaryTest.class);
    }

    // ---- what it is

    /** Two cores take a line from one another by turns: each queue in use has more messages than any row is long. */
    @Sentence("An object is used for at most 512 calls after it has been made")
    static void termsAll512CallsAreAnswered() {
        HearthCache x = new HearthCache();
        for (int turn = 0; turn < 170; turn++) {
            int core = turn % 2;
            is("turn " + turn + ", asked for", x.add(core, 3, 1), NONE);
            is("turn " + turn + ", delivered", x.pump(20), turn == 0 ? 2 : 4);
            is("turn " + turn + ", added", x.add(core, 3, 1), turn);
        }
        is("the 511th call", x.truth(3), 170);
        is("the 512th call", x.counter(WRITES), 170);
    }

    // ---- the constants

    @Sentence("`NONE = -1`: It has to be made again; or there is none.")
    static void constantsNoneIsNoValueNoCoreAndNoEnd() {
        is("NONE", HearthCache.NONE, -1);
        HearthCache x = new HearthCache();
        is("no value", x.load(0, 0), -1);
        is("no owner", x.owner(0), -1);
        x.begin(1);
        x.store(1, 1, 0);
        is("no end", x.end(1), -1);
    }

    @Sentence("`REQUEST = 0, FORWARD = 1, ANSWER = 2`: Classes of messages.")
    static void constantsClassesAre0To2() {
        is("REQUEST", HearthCache.REQUEST, 0);
        is("FORWARD", HearthCache.FORWARD, 1);
        is("ANSWER", HearthCache.ANSWER, 2);
    }

    @Sentence("`INVALID = 0, SHARED = 1, EXCLUSIVE = 2, MODIFIED = 3, WAITS_READ = 4, WAITS_WRITE = 5`")
    static void constantsStatesAre0To5() {
        is("INVALID", HearthCache.INVALID, 0);
        is("SHARED", HearthCache.SHARED, 1);
        is("EXCLUSIVE", HearthCache.EXCLUSIVE, 2);
        is("MODIFIED", HearthCache.MODIFIED, 3);
        is("WAITS_READ", HearthCache.WAITS_READ, 4);
        is("WAITS_WRITE", HearthCache.WAITS_WRITE, 5);
    }

    @Sentence("`STRICT = 0, BUFFERED = 1`: Models.")
    static void constantsModelsAre0And1() {
        is("STRICT", HearthCache.STRICT, 0);
        is("BUFFERED", HearthCache.BUFFERED, 1);
    }

    @Sentence("`STORE = 0, LOAD = 1, FENCE = 2, ADD = 3`: Steps of programs.")
    static void constantsStepsAre0To3() {
        is("STORE", HearthCache.STORE, 0);
        is("LOAD", HearthCache.LOAD, 1);
        is("FENCE", HearthCache.FENCE, 2);
        is("ADD", HearthCache.ADD, 3);
    }

    // ---- cores, lines, messages

    @Sentence("There are the cores 0 to 3, and the home, which is told as 4.")
    static void termsTheHomeIsNoCore() {
        HearthCache x = new HearthCache();
        outOfBounds("the home does not load", () -> x.load(4, 0));
        is("the home has queues", x.queued(REQUEST, 4), 0);
        outOfBounds("there is no receiver behind the home", () -> x.queued(REQUEST, 5));
    }

    @Sentence("There are the cores 0 to 3")
    static void termsEachCoreHasACacheOfItsOwn() {
        HearthCache x = new HearthCache();
        for (int core = 0; core < 4; core++) {
            own(x, core, core, 10 + core);
        }
        for (int core = 0; core < 4; core++) {
            is("its own line", x.valueIn(core, core), 10 + core);
            is("not that of the next core", x.valueIn(core, (core + 1) % 4), NONE);
        }
    }

    @Sentence("There are the lines 0 to 15, each with one value, 0 at first.")
    static void termsEachLineIs0AtFirst() {
        for (int line = 0; line < 16; line++) {
            HearthCache x = new HearthCache();
            is("home of " + line, x.home(line), 0);
            is("truth of " + line, x.truth(line), 0);
            is("a load of " + line, read(x, line % 4, line), 0);
        }
    }

    @Sentence("There are the lines 0 to 15, each with one value, 0 at first.")
    static void termsEachLineHasAValueOfItsOwn() {
        HearthCache x = new HearthCache();
        for (int line = 0; line < 16; line++) {
            own(x, line / 4, line, 100 + line);
        }
        for (int line = 0; line < 16; line++) {
            is("truth of " + line, x.truth(line), 100 + line);
            is("home of " + line, x.home(line), 0);
        }
    }

    @Sentence("what is sent is put at its end. To deliver is to take the first message of a queue")
    static void termsTheFirstMessageIsTaken() {
        HearthCache x = new HearthCache();
        int[] lines = {7, 15, 0, 4};
        for (int core = 0; core < 4; core++) {
            x.load(core, lines[core]);
        }
        for (int line : lines) {
            is("in the order in which they were sent", x.deliver(REQUEST, HOME), line);
        }
        for (int core = 0; core < 4; core++) {
            is("DATA", x.deliver(ANSWER, core), lines[core]);
        }
    }

    @Sentence("for each class and each receiver there is a queue")
    static void termsQueuesOfAReceiverAreApart() {
        HearthCache x = new HearthCache();
        own(x, 0, 2, 1);
        x.load(1, 2);
        x.deliver(REQUEST, HOME);
        x.load(0, 6);
        x.load(2, 7);
        x.deliver(REQUEST, HOME);
        is("FETCH for core 0", x.queued(FORWARD, 0), 1);
        is("DATA for core 0", x.queued(ANSWER, 0), 1);
        is("a READ for the home", x.queued(REQUEST, HOME), 1);
        is("the FORWARD", x.deliver(FORWARD, 0), 2);
        is("DATA has stayed", x.queued(ANSWER, 0), 1);
        is("ANSWER for the home", x.queued(ANSWER, HOME), 1);
        is("the ANSWER to the home", x.deliver(ANSWER, HOME), 2);
        is("the READ has stayed", x.deliver(REQUEST, HOME), 7);
        is("DATA", x.deliver(ANSWER, 0), 6);
    }

    /** Three messages stand in the queue each time, 75 go through it: a row that goes round does so in between. */
    @Sentence("what is sent is put at its end. To deliver is to take the first message of a queue")
    static void termsAQueueStaysInOrderWhenItsRowGoesRound() {
        HearthCache x = new HearthCache();
        for (int turn = 0; turn < 25; turn++) {
            for (int core = 0; core < 3; core++) {
                x.add(core, (turn + core) % 3, 1);
            }
            is("turn " + turn, x.queued(REQUEST, HOME), 3);
            for (int core = 0; core < 3; core++) {
                is("turn " + turn + ", WRITE of core " + core, x.deliver(REQUEST, HOME), (turn + core) % 3);
            }
            x.pump(20);
        }
        is("75 WRITEs", x.counter(WRITES), 75);
    }

    /** Each core puts out its four lines, and asks for four others: more REQUESTs can't be on their way at once. */
    @Sentence("for each class and each receiver there is a queue: what is sent is put at its end.")
    static void termsAQueueHolds32Requests() {
        HearthCache x = new HearthCache();
        int[] order = {0, 2, 1, 3};
        for (int core = 0; core < 4; core++) {
            for (int at : order) {
                read(x, core, 4 * core + at);
            }
        }
        for (int core = 0; core < 4; core++) {
            for (int at : order) {
                is("asked for", x.load(core, 4 * ((core + 1) % 4) + at), NONE);
            }
        }
        is("16 PUTs and 16 READs", x.queued(REQUEST, HOME), 32);
        for (int core = 0; core < 4; core++) {
            for (int at : order) {
                is("PUT", x.deliver(REQUEST, HOME), 4 * core + at);
                is("READ", x.deliver(REQUEST, HOME), 4 * ((core + 1) % 4) + at);
            }
        }
        is("none is left", x.queued(REQUEST, HOME), 0);
    }

    /** All lines have overflowed, and each is asked for to be written: KILLs for three cores of each line. */
    @Sentence("for each class and each receiver there is a queue: what is sent is put at its end.")
    static void termsAQueueHolds48Answers() {
        HearthCache x = new HearthCache();
        for (int line = 0; line < 16; line++) {
            int mixed = line / 4 * 4 + new int[] {0, 2, 1, 3}[line % 4];
            for (int core = 0; core < 3; core++) {
                x.load(core, mixed);
                x.pump(20);
            }
        }
        is("all have overflowed", x.counter(OVERFLOWS), 16);
        for (int line = 0; line < 16; line++) {
            x.add(line / 4, line, 1);
        }
        is("16 WRITEs", x.queued(REQUEST, HOME), 16);
        deliver(x, REQUEST, HOME, 16);
        for (int core = 0; core < 4; core++) {
            is("KILLs for core " + core, x.queued(FORWARD, core), 12);
            for (int line = 0; line < 16; line++) {
                if (line / 4 != core) {
                    is("KILL of line " + line, x.deliver(FORWARD, core), line);
                }
            }
        }
        is("ANSWERs for the home", x.queued(ANSWER, HOME), 48);
        is("20 rounds take 20 of them", x.pump(20), 20);
        is("20 more, and DATA of seven lines", x.pump(20), 27);
        is("the last 8, and DATA of nine lines", x.pump(20), 17);
        for (int line = 0; line < 16; line++) {
            is("written", x.add(line / 4, line, 1), 0);
        }
    }

    @Sentence("REQUESTs go to the home, FORWARDs to cores, ANSWERs to both.")
    static void termsRequestsGoToNoCore() {
        HearthCache x = new HearthCache();
        for (int core = 0; core < 4; core++) {
            x.load(core, 3);
            int of = core;
            is("for core " + core, x.queued(REQUEST, core), 0);
            badState("for core " + core, () -> x.deliver(REQUEST, of));
        }
        is("for the home", x.queued(REQUEST, HOME), 4);
    }

    @Sentence("REQUESTs go to the home, FORWARDs to cores, ANSWERs to both.")
    static void termsForwardsDoNotGoToTheHome() {
        HearthCache x = new HearthCache();
        own(x, 0, 3, 1);
        x.load(1, 3);
        x.deliver(REQUEST, HOME);
        is("FETCH for the owner", x.queued(FORWARD, 0), 1);
        is("for the home", x.queued(FORWARD, HOME), 0);
        badState("for the home", () -> x.deliver(FORWARD, HOME));
    }

    @Sentence("REQUESTs go to the home, FORWARDs to cores, ANSWERs to both.")
    static void termsAnswersGoToBoth() {
        HearthCache x = new HearthCache();
        own(x, 0, 3, 1);
        x.load(1, 3);
        x.deliver(REQUEST, HOME);
        x.deliver(FORWARD, 0);
        is("to the home", x.queued(ANSWER, HOME), 1);
        x.deliver(ANSWER, HOME);
        is("to the core", x.queued(ANSWER, 1), 1);
        is("not to the one that was the owner", x.queued(ANSWER, 0), 0);
    }
}
