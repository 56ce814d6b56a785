/** At least one test for each promise: ordinary inputs, the edges that the document names, wrong inputs. */
public final class PromiseTest {
    private static final int[] NO_CORES = {-1, 4, Integer.MIN_VALUE, Integer.MAX_VALUE};
    private static final int[] NO_LINES = {-1, 16, Integer.MIN_VALUE, Integer.MAX_VALUE};
    private static final int[] NO_RECEIVERS = {-1, 5, Integer.MIN_VALUE, Integer.MAX_VALUE};
    private static final int[] NO_CLASSES = {-1, 3, Integer.MIN_VALUE, Integer.MAX_VALUE};

    public static void main(String[] args) {
        promise1NewObject();
        promise2Load();
        promise2LoadStrides();
        promise2LoadEvicts();
        promise3Store();
        promise4Drain();
        promise5Fence();
        promise6Add();
        promise7Begin();
        promise8End();
        promise8EndBroken();
        promise9Deliver();
        promise9HomeServesInRow();
        promise9Races();
        promise10Pump();
        promise11Queued();
        promise12StateOf();
        promise13ValueIn();
        promise14Home();
        promise15Owner();
        promise16Sharers();
        promise17Waiting();
        promise18Truth();
        promise19IsCoherent();
        promise20Counter();
        promise21Clear();
        promise22Step();
        promise23Outcomes();
        promise24Outcome();
        promise25OutcomesAnew();
        promise26AreAlike();
        Check.finish("PromiseTest");
    }

    // ---- helps

    /** Lets a core have the line with a value of its own: MODIFIED, all messages delivered. */
    private static void own(HearthCache x, int core, int line, int value) {
        x.store(core, line, value);
        for (int i = 0; i < 5 && !x.drain(core); i++) {
            x.pump(20);
        }
    }

    /** Lets a core read the line, all messages delivered. */
    private static int read(HearthCache x, int core, int line) {
        int value = x.load(core, line);
        for (int i = 0; i < 5 && value == HearthCache.NONE; i++) {
            x.pump(20);
            value = x.load(core, line);
        }
        return value;
    }

    private static void states(String when, HearthCache x, int line, int... due) {
        for (int core = 0; core < 4; core++) {
            Check.is(when + ": stateOf(" + core + ", " + line + ")", x.stateOf(core, line), due[core]);
        }
    }

    private static void counters(String when, HearthCache x, int... due) {
        for (int which = 0; which < 10; which++) {
            Check.is(when + ": counter(" + which + ")", x.counter(which), due[which]);
        }
    }

    private static void outcomesAre(String when, HearthCache x, int model, int... due) {
        Check.is(when + ": outcomes(" + model + ")", x.outcomes(model), due.length);
        Check.is(when + ": outcomesAnew(" + model + ")", x.outcomesAnew(model), due.length);
        for (int i = 0; i < due.length && i < x.outcomes(model); i++) {
            Check.is(when + ": outcome(" + model + ", " + i + ")", x.outcome(model, i), due[i]);
        }
        Check.outOfBounds(when + ": outcome past the last", () -> x.outcome(model, due.length));
    }

    // ---- cores

    private static void promise1NewObject() {
        HearthCache x = new HearthCache();
        for (int line = 0; line < 16; line++) {
            states("new", x, line, 0, 0, 0, 0);
            for (int core = 0; core < 4; core++) {
                Check.is("new valueIn", x.valueIn(core, line), -1);
            }
            Check.is("new home", x.home(line), 0);
            Check.is("new owner", x.owner(line), -1);
            Check.is("new sharers", x.sharers(line), 0);
            Check.is("new waiting", x.waiting(line), 0);
            Check.is("new truth", x.truth(line), 0);
        }
        HearthCache y = new HearthCache();
        for (int of = 0; of < 3; of++) {
            for (int receiver = 0; receiver < 5; receiver++) {
                Check.is("new queued", y.queued(of, receiver), 0);
            }
        }
        counters("new", y, 0, 0, 0, 0, 0, 0, 0, 0, 0, 0);
        for (int core = 0; core < 4; core++) {
            Check.is("new fence", y.fence(core), true);
            Check.is("new begin", y.begin(core), 0);
        }
        Check.is("new isCoherent", y.isCoherent(), true);
        Check.is("new clear", y.clear(), 0);
        Check.is("NONE", HearthCache.NONE, -1);
    }

    private static void promise2Load() {
        HearthCache x = new HearthCache();
        Check.is("load not there", x.load(2, 15), -1);
        Check.is("READ is sent", x.queued(HearthCache.REQUEST, 4), 1);
        Check.is("load while it waits", x.load(2, 15), -1);
        Check.is("no second READ", x.queued(HearthCache.REQUEST, 4), 1);
        x.pump(20);
        Check.is("load from the cache", x.load(2, 15), 0);
        Check.is("counted", x.counter(0), 1);
        x.store(2, 15, 4);
        x.store(2, 15, 5);
        x.store(2, 14, 6);
        Check.is("load the latest of the buffer", x.load(2, 15), 5);
        Check.is("load from the buffer, not in the cache", x.load(2, 14), 6);
        Check.is("buffers are not counted", x.counter(0), 1);
        Check.is("nothing asked for", x.counter(1), 1);
        for (int bad : NO_CORES) {
            Check.outOfBounds("load no core", () -> x.load(bad, 0));
        }
        for (int bad : NO_LINES) {
            Check.outOfBounds("load no line", () -> x.load(0, bad));
        }
        HearthCache y = new HearthCache();
        y.begin(1);
        for (int line = 0; line < 4; line++) {
            y.store(1, line, line);
        }
        Check.badState("load a fifth line", () -> y.load(1, 4));
        Check.is("a throw asks for nothing", y.queued(HearthCache.REQUEST, 4), 0);
        Check.is("load one of the four", y.load(1, 3), 3);
        Check.outOfBounds("no line goes first", () -> y.load(1, 16));
        Check.is("other cores load", y.load(0, 4), -1);
    }

    private static void promise2LoadStrides() {
        HearthCache x = new HearthCache();
        for (int line = 1; line <= 5; line += 2) {
            x.load(0, line);
        }
        Check.is("the line ahead is asked for", x.stateOf(0, 7), HearthCache.WAITS_READ);
        Check.is("READ by a stride", x.counter(6), 1);
        Check.is("it is a READ", x.counter(1), 4);
        HearthCache down = new HearthCache();
        for (int line = 15; line >= 5; line -= 5) {
            down.load(1, line);
        }
        Check.is("down to line 0", down.stateOf(1, 0), HearthCache.WAITS_READ);
        HearthCache beyond = new HearthCache();
        for (int line = 13; line <= 15; line++) {
            beyond.load(1, line);
        }
        Check.is("no line 16", beyond.counter(1), 3);
        Check.is("no READ by a stride", beyond.counter(6), 0);
        HearthCache below = new HearthCache();
        for (int line = 2; line >= 0; line--) {
            below.load(1, line);
        }
        Check.is("no line -1", below.counter(6), 0);
        HearthCache first = new HearthCache();
        first.load(0, 1);
        first.load(0, 2);
        Check.is("one stride is not enough", first.counter(6), 0);
        HearthCache there = new HearthCache();
        there.store(0, 6, 1);
        there.drain(0);
        there.load(0, 0);
        there.load(0, 2);
        there.load(0, 4);
        Check.is("ahead it is there", there.counter(6), 0);
        HearthCache full = new HearthCache();
        full.store(0, 9, 1);
        full.drain(0);
        for (int line = 0; line < 3; line++) {
            full.load(0, line);
        }
        Check.is("no place is empty", full.counter(6), 0);
        HearthCache inside = new HearthCache();
        inside.begin(0);
        for (int line = 0; line < 3; line++) {
            inside.load(0, line);
        }
        Check.is("no strides in a transaction", inside.counter(6), 0);
        HearthCache same = new HearthCache();
        for (int i = 0; i < 4; i++) {
            read(same, 0, 5);
            own(same, 1, 5, i);
        }
        Check.is("four READs of a line", same.counter(1), 4);
        Check.is("a stride of 0 asks for nothing", same.counter(6), 0);
        strideIsKeptByItsOwnReads();
    }

    /** READs by strides, and loads that send none, do not count as the line for which it was so last. */
    private static void strideIsKeptByItsOwnReads() {
        HearthCache x = new HearthCache();
        read(x, 0, 0);
        read(x, 0, 1);
        x.load(0, 2);
        x.pump(20);
        Check.is("line 3 was read ahead", x.load(0, 3), 0);
        Check.is("one READ by a stride", x.counter(6), 1);
        own(x, 1, 0, 1);
        own(x, 1, 1, 1);
        x.load(0, 3);
        x.load(0, 2);
        x.load(0, 4);
        Check.is("stride 2, but 1 before", x.counter(6), 1);
        own(x, 1, 2, 1);
        own(x, 1, 3, 1);
        x.load(0, 6);
        Check.is("stride 2 again", x.stateOf(0, 8), HearthCache.WAITS_READ);
        Check.is("two READs by strides", x.counter(6), 2);
        loadsThatSendNoReadAreNoStride();
    }

    private static void loadsThatSendNoReadAreNoStride() {
        HearthCache waiting = new HearthCache();
        waiting.store(0, 3, 1);
        waiting.drain(0);
        waiting.load(0, 2);
        waiting.drain(0);
        waiting.load(0, 3);
        waiting.store(0, 4, 1);
        waiting.load(0, 4);
        Check.is("line 3 waits to be written", waiting.stateOf(0, 3), HearthCache.WAITS_WRITE);
        waiting.load(0, 1);
        waiting.load(0, 0);
        Check.is("the stride is -1 twice, but line -1 is none", waiting.counter(6), 0);
        HearthCache skipped = new HearthCache();
        skipped.store(0, 2, 1);
        skipped.drain(0);
        skipped.load(0, 1);
        skipped.load(0, 2);
        skipped.load(0, 3);
        Check.is("line 2 was not asked for by a load", skipped.counter(6), 0);
        Check.is("so it is one stride", skipped.counter(1), 2);
        skipped.pump(20);
        own(skipped, 1, 1, 1);
        own(skipped, 1, 3, 1);
        skipped.load(0, 5);
        Check.is("2 and 2", skipped.stateOf(0, 7), HearthCache.WAITS_READ);
        HearthCache leaving = new HearthCache();
        for (int line : new int[] {2, 9, 10, 14}) {
            own(leaving, 0, line, 1);
        }
        leaving.load(0, 1);
        Check.is("line 2 is LEAVING", leaving.stateOf(0, 2), 10);
        leaving.load(0, 2);
        for (int line : new int[] {9, 10, 14}) {
            own(leaving, 1, line, 1);
        }
        leaving.load(0, 3);
        Check.is("line 2 was not asked for", leaving.counter(6), 0);
        HearthCache full = new HearthCache();
        for (int line : new int[] {15, 8, 10, 1}) {
            full.load(0, line);
        }
        full.load(0, 2);
        full.pump(20);
        for (int line : new int[] {15, 8, 10}) {
            own(full, 1, line, 1);
        }
        full.load(0, 3);
        Check.is("line 2 had no place", full.counter(6), 0);
    }

    private static void promise2LoadEvicts() {
        HearthCache x = new HearthCache();
        int[] lines = {0, 5, 3, 9};
        for (int line : lines) {
            read(x, 0, line);
        }
        read(x, 0, 0);
        x.load(0, 12);
        Check.is("the longest unused leaves", x.stateOf(0, 5), 10);
        Check.is("PUT", x.counter(3), 1);
        Check.is("a LEAVING line is not asked for", x.load(0, 5), -1);
        Check.is("just READ and PUT", x.queued(HearthCache.REQUEST, 4), 2);
        x.pump(20);
        Check.is("it has left", x.stateOf(0, 5), 0);
        Check.is("no owner then", x.owner(5), -1);
        HearthCache shared = new HearthCache();
        read(shared, 1, 0);
        read(shared, 0, 0);
        for (int line : new int[] {5, 3, 9}) {
            read(shared, 0, line);
        }
        shared.load(0, 12);
        Check.is("SHARED goes without a message", shared.stateOf(0, 0), 0);
        Check.is("no PUT", shared.counter(3), 0);
        Check.is("the home does not know", shared.sharers(0), 3);
        HearthCache waits = new HearthCache();
        for (int line : new int[] {0, 5, 3, 9}) {
            waits.load(0, line);
        }
        Check.is("without a place nothing is done", waits.load(0, 12), -1);
        Check.is("not asked for", waits.stateOf(0, 12), 0);
        Check.is("four READs", waits.counter(1), 4);
        waits.store(0, 9, 1);
        Check.is("it waits to be read", waits.drain(0), false);
        Check.is("nothing is done", waits.stateOf(0, 9), HearthCache.WAITS_READ);
        Check.is("no WRITE", waits.counter(2), 0);
        HearthCache kept = new HearthCache();
        kept.begin(0);
        for (int line : new int[] {0, 5, 3}) {
            read(kept, 0, line);
        }
        kept.load(0, 9);
        kept.pump(20);
        kept.load(0, 12);
        Check.is("lines of a transaction stay", kept.stateOf(0, 0), HearthCache.EXCLUSIVE);
        Check.is("one that is not in it leaves", kept.stateOf(0, 9), 10);
        placesAreTakenLowestFirst();
    }

    /** Only the order of use tells, not the place: a store that is done uses its line, DATA uses it, too. */
    private static void placesAreTakenLowestFirst() {
        HearthCache x = new HearthCache();
        own(x, 0, 0, 1);
        for (int line : new int[] {5, 3, 9}) {
            x.load(0, line);
            x.pump(20);
        }
        x.store(0, 0, 2);
        Check.is("done at once", x.drain(0), true);
        x.add(0, 5, 1);
        x.load(0, 12);
        Check.is("line 3 was used longest ago", x.stateOf(0, 3), 10);
        Check.is("line 5 was added to", x.stateOf(0, 5), HearthCache.MODIFIED);
    }

    private static void promise3Store() {
        HearthCache x = new HearthCache();
        Check.is("store 1", x.store(3, 0, 0), 1);
        Check.is("store 2", x.store(3, 15, 999), 2);
        Check.is("the same line again", x.store(3, 15, 7), 3);
        Check.is("store 4", x.store(3, 1, 7), 4);
        Check.badState("a fifth store", () -> x.store(3, 15, 7));
        Check.badArgument("value -1 goes first", () -> x.store(3, 15, -1));
        Check.badArgument("value 1000", () -> x.store(0, 0, 1000));
        Check.is("other cores have buffers of their own", x.store(2, 0, 1), 1);
        for (int bad : NO_CORES) {
            Check.outOfBounds("store no core", () -> x.store(bad, 0, -1));
        }
        for (int bad : NO_LINES) {
            Check.outOfBounds("store no line", () -> x.store(3, bad, 0));
        }
        Check.is("nothing is asked for", x.queued(HearthCache.REQUEST, 4), 0);
        HearthCache y = new HearthCache();
        y.begin(0);
        Check.is("transaction store 1", y.store(0, 4, 1), 1);
        Check.is("the same line counts once", y.store(0, 4, 2), 1);
        Check.is("transaction store 2", y.store(0, 2, 3), 2);
        Check.is("it reads its own", y.load(0, 4), 2);
        Check.is("the buffer stays empty", y.fence(0), true);
        y.load(0, 7);
        y.pump(20);
        y.load(0, 7);
        Check.is("a loaded line is no line with a store", y.store(0, 1, 3), 3);
        Check.badState("a fifth line", () -> y.store(0, 8, 1));
        Check.is("a line that was loaded", y.store(0, 7, 1), 4);
        Check.badArgument("value goes first", () -> y.store(0, 8, 1000));
    }

    private static void promise4Drain() {
        HearthCache x = new HearthCache();
        Check.is("an empty buffer", x.drain(0), false);
        x.store(0, 3, 8);
        x.store(0, 4, 9);
        Check.is("not there", x.drain(0), false);
        Check.is("asked for, to be written", x.stateOf(0, 3), HearthCache.WAITS_WRITE);
        Check.is("only the oldest", x.stateOf(0, 4), 0);
        x.pump(20);
        Check.is("the store has stayed", x.fence(0), false);
        Check.is("done", x.drain(0), true);
        Check.is("its value", x.valueIn(0, 3), 8);
        Check.is("MODIFIED", x.stateOf(0, 3), HearthCache.MODIFIED);
        Check.is("the next one", x.load(0, 4), 9);
        x.load(1, 3);
        x.pump(20);
        x.pump(20);
        x.drain(0);
        x.pump(20);
        x.drain(0);
        x.store(0, 3, 1);
        Check.is("SHARED is not enough", x.drain(0), false);
        Check.is("it waits to be written", x.stateOf(0, 3), HearthCache.WAITS_WRITE);
        HearthCache y = new HearthCache();
        read(y, 0, 3);
        y.store(0, 3, 5);
        Check.is("EXCLUSIVE is enough", y.drain(0), true);
        Check.is("becomes MODIFIED", y.stateOf(0, 3), HearthCache.MODIFIED);
        Check.is("no WRITE", y.counter(2), 0);
        for (int value = 1; value < 5; value++) {
            y.store(0, 3, value);
        }
        for (int value = 1; value < 5; value++) {
            Check.is("four in their order", y.drain(0), true);
            Check.is("the oldest first", y.valueIn(0, 3), value);
        }
        Check.is("no fifth", y.drain(0), false);
        for (int bad : NO_CORES) {
            Check.outOfBounds("drain no core", () -> x.drain(bad));
        }
    }

    private static void promise5Fence() {
        HearthCache x = new HearthCache();
        Check.is("empty", x.fence(1), true);
        x.store(1, 0, 1);
        Check.is("a store in the buffer", x.fence(1), false);
        Check.is("of another core", x.fence(0), true);
        x.drain(1);
        x.pump(20);
        x.drain(1);
        Check.is("drained", x.fence(1), true);
        for (int bad : NO_CORES) {
            Check.outOfBounds("fence no core", () -> x.fence(bad));
        }
    }

    private static void promise6Add() {
        HearthCache x = new HearthCache();
        Check.is("not there", x.add(0, 3, 1), -1);
        Check.is("asked for, to be written", x.stateOf(0, 3), HearthCache.WAITS_WRITE);
        x.pump(20);
        Check.is("the value before", x.add(0, 3, 9), 0);
        Check.is("the value after", x.valueIn(0, 3), 9);
        own(x, 0, 3, 995);
        Check.is("before it goes round", x.add(0, 3, 5), 995);
        Check.is("modulo 1000", x.add(0, 3, 9), 0);
        own(x, 0, 3, 999);
        x.add(0, 3, 9);
        Check.is("999 and 9", x.truth(3), 8);
        read(x, 1, 3);
        Check.is("SHARED is not enough", x.add(0, 3, 1), -1);
        Check.is("it waits to be written", x.stateOf(0, 3), HearthCache.WAITS_WRITE);
        HearthCache y = new HearthCache();
        read(y, 2, 7);
        Check.is("EXCLUSIVE is enough", y.add(2, 7, 1), 0);
        Check.is("MODIFIED by it", y.stateOf(2, 7), HearthCache.MODIFIED);
        Check.badArgument("add 0", () -> y.add(2, 7, 0));
        Check.badArgument("add 10", () -> y.add(2, 7, 10));
        for (int bad : NO_CORES) {
            Check.outOfBounds("add no core", () -> y.add(bad, 0, 0));
        }
        for (int bad : NO_LINES) {
            Check.outOfBounds("add no line", () -> y.add(0, bad, 1));
        }
        y.store(2, 8, 1);
        Check.badState("a store in the buffer", () -> y.add(2, 7, 1));
        Check.badArgument("by goes first", () -> y.add(2, 7, 0));
        y.begin(1);
        Check.badState("a transaction", () -> y.add(1, 7, 1));
        Check.is("nothing was changed", y.valueIn(2, 7), 1);
    }

    // ---- transactions

    private static void promise7Begin() {
        HearthCache x = new HearthCache();
        Check.is("first", x.begin(0), 0);
        Check.badState("has one", () -> x.begin(0));
        x.store(1, 0, 1);
        Check.badState("a store in the buffer", () -> x.begin(1));
        for (int bad : NO_CORES) {
            Check.outOfBounds("begin no core", () -> x.begin(bad));
        }
        Check.is("an empty one ends well", x.end(0), 1);
        Check.is("none was broken", x.begin(0), 0);
        x.end(0);
        for (int i = 0; i < 3; i++) {
            x.begin(2);
            read(x, 2, 5);
            own(x, 3, 5, i);
            Check.is("broken", x.end(2), 0);
        }
        Check.is("three were broken", x.begin(2), 3);
        Check.is("of others none", x.begin(3), 0);
    }

    private static void promise8End() {
        HearthCache x = new HearthCache();
        for (int bad : NO_CORES) {
            Check.outOfBounds("end no core", () -> x.end(bad));
        }
        Check.badState("none", () -> x.end(0));
        x.begin(0);
        x.store(0, 9, 4);
        x.store(0, 2, 6);
        Check.is("goes on", x.end(0), -1);
        Check.is("asked for", x.stateOf(0, 9), HearthCache.WAITS_WRITE);
        Check.is("asked for, too", x.stateOf(0, 2), HearthCache.WAITS_WRITE);
        Check.is("by rising numbers", x.deliver(HearthCache.REQUEST, 4), 2);
        Check.is("then the other", x.deliver(HearthCache.REQUEST, 4), 9);
        x.deliver(HearthCache.ANSWER, 0);
        Check.is("one is not enough", x.end(0), -1);
        Check.is("not written yet", x.valueIn(0, 2), 0);
        Check.is("still EXCLUSIVE or MODIFIED as told", x.stateOf(0, 2), HearthCache.MODIFIED);
        x.deliver(HearthCache.ANSWER, 0);
        Check.is("ends well", x.end(0), 1);
        Check.is("first value", x.valueIn(0, 2), 6);
        Check.is("second value", x.valueIn(0, 9), 4);
        Check.is("ended well", x.counter(7), 1);
        Check.badState("it has ended", () -> x.end(0));
        x.begin(0);
        Check.is("the next one has no stores", x.load(0, 2), 6);
        read(x, 0, 3);
        Check.is("read only", x.end(0), 1);
        usedByRisingNumbers();
    }

    private static void usedByRisingNumbers() {
        HearthCache x = new HearthCache();
        for (int line : new int[] {8, 5, 3, 1}) {
            own(x, 0, line, 1);
        }
        x.begin(0);
        for (int line : new int[] {8, 5, 1, 3}) {
            x.store(0, line, line);
        }
        Check.is("all are there", x.end(0), 1);
        x.load(0, 12);
        Check.is("line 1 was used first", x.stateOf(0, 1), 10);
        x.pump(20);
        x.load(0, 14);
        Check.is("then line 3", x.stateOf(0, 3), 10);
    }

    private static void promise8EndBroken() {
        HearthCache x = new HearthCache();
        own(x, 0, 1, 7);
        x.begin(0);
        x.load(0, 1);
        read(x, 1, 1);
        Check.is("FETCH of a line that was loaded does not break", x.end(0), 1);
        x.begin(0);
        x.load(0, 1);
        x.store(0, 2, 5);
        own(x, 1, 1, 8);
        Check.is("KILL breaks", x.end(0), 0);
        Check.is("its stores are gone", x.truth(2), 0);
        Check.is("nothing is asked for", x.stateOf(0, 2), 0);
        Check.is("ended broken", x.counter(8), 1);
        own(x, 0, 1, 9);
        x.begin(0);
        x.load(0, 1);
        own(x, 1, 1, 8);
        Check.is("TAKE of a line that was loaded breaks", x.end(0), 0);
        own(x, 0, 1, 9);
        x.begin(0);
        x.store(0, 1, 3);
        Check.is("reads its own", x.load(0, 1), 3);
        Check.is("FETCH of a line with a store breaks", read(x, 1, 1), 9);
        Check.is("it goes on as others do", x.store(0, 4, 3), 2);
        Check.is("and reads", x.load(0, 4), 3);
        Check.is("it cannot end well", x.end(0), 0);
        Check.is("two more", x.begin(0), 3);
        own(x, 1, 6, 1);
        own(x, 1, 4, 1);
        own(x, 1, 1, 1);
        Check.is("lines of earlier ones do not break it", x.end(0), 1);
        waitingLineBreaks();
    }

    private static void waitingLineBreaks() {
        HearthCache x = new HearthCache();
        x.begin(0);
        x.store(0, 3, 5);
        x.end(0);
        x.deliver(HearthCache.REQUEST, 4);
        x.store(1, 3, 6);
        x.drain(1);
        x.deliver(HearthCache.REQUEST, 4);
        x.deliver(HearthCache.FORWARD, 0);
        Check.is("TAKE is remembered", x.queued(HearthCache.ANSWER, 4), 0);
        Check.is("TAKE breaks while the line waits", x.end(0), 0);
        x.deliver(HearthCache.ANSWER, 0);
        Check.is("TAKE is done when DATA has come", x.stateOf(0, 3), 0);
        Check.is("its ANSWER", x.queued(HearthCache.ANSWER, 4), 1);
        x.pump(20);
        Check.is("the other core goes on", x.drain(1), true);
        Check.is("truth", x.truth(3), 6);
    }

    // ---- messages

    private static void promise9Deliver() {
        HearthCache x = new HearthCache();
        for (int bad : NO_RECEIVERS) {
            Check.outOfBounds("deliver no receiver", () -> x.deliver(-1, bad));
        }
        for (int bad : NO_CLASSES) {
            Check.badArgument("deliver no class", () -> x.deliver(bad, 4));
        }
        for (int of = 0; of < 3; of++) {
            for (int receiver = 0; receiver < 5; receiver++) {
                int one = of;
                int to = receiver;
                Check.badState("an empty queue", () -> x.deliver(one, to));
            }
        }
        x.load(0, 11);
        x.load(1, 12);
        x.load(2, 11);
        Check.is("first sent, first delivered", x.deliver(HearthCache.REQUEST, 4), 11);
        Check.is("then the next", x.deliver(HearthCache.REQUEST, 4), 12);
        Check.is("DATA to core 1", x.deliver(HearthCache.ANSWER, 1), 12);
        states("DATA", x, 12, 0, 2, 0, 0);
        Check.is("READ with an owner", x.deliver(HearthCache.REQUEST, 4), 11);
        Check.is("FETCH", x.queued(HearthCache.FORWARD, 0), 1);
        Check.is("FETCH while it waits", x.deliver(HearthCache.FORWARD, 0), 11);
        Check.is("is remembered", x.queued(HearthCache.ANSWER, 4), 0);
        Check.is("DATA", x.deliver(HearthCache.ANSWER, 0), 11);
        states("FETCH is done", x, 11, 1, 0, 4, 0);
        Check.is("its ANSWER", x.deliver(HearthCache.ANSWER, 4), 11);
        Check.is("DATA, SHARED", x.deliver(HearthCache.ANSWER, 2), 11);
        states("all shared", x, 11, 1, 0, 1, 0);
        Check.is("both known", x.sharers(11), 5);
    }

    private static void promise9HomeServesInRow() {
        HearthCache x = new HearthCache();
        own(x, 0, 3, 7);
        x.load(1, 3);
        x.store(2, 3, 8);
        x.drain(2);
        x.load(3, 3);
        for (int i = 0; i < 3; i++) {
            x.deliver(HearthCache.REQUEST, 4);
        }
        Check.is("three of the line", x.waiting(3), 3);
        Check.is("just FETCH", x.queued(HearthCache.FORWARD, 0), 1);
        x.deliver(HearthCache.FORWARD, 0);
        x.deliver(HearthCache.ANSWER, 4);
        Check.is("the READ is over", x.waiting(3), 2);
        Check.is("KILL to 0", x.queued(HearthCache.FORWARD, 0), 1);
        Check.is("KILL to 1", x.queued(HearthCache.FORWARD, 1), 1);
        Check.is("no KILL to the writer", x.queued(HearthCache.FORWARD, 2), 0);
        x.deliver(HearthCache.FORWARD, 1);
        x.deliver(HearthCache.ANSWER, 4);
        Check.is("one ANSWER is missing", x.owner(3), -1);
        Check.is("sharers until then", x.sharers(3), 3);
        x.deliver(HearthCache.FORWARD, 0);
        x.deliver(HearthCache.ANSWER, 4);
        Check.is("the writer is the owner", x.owner(3), 2);
        Check.is("and the last READ is served", x.waiting(3), 1);
        Check.is("by a FETCH", x.queued(HearthCache.FORWARD, 2), 1);
        Check.is("KILL came before DATA", x.stateOf(1, 3), HearthCache.WAITS_READ);
        x.deliver(HearthCache.ANSWER, 1);
        Check.is("so the place is empty", x.stateOf(1, 3), 0);
        x.pump(20);
        states("at the end", x, 3, 0, 0, 1, 1);
        Check.is("the value that was written is not there yet", x.truth(3), 7);
    }

    private static void promise9Races() {
        HearthCache x = new HearthCache();
        own(x, 0, 2, 9);
        for (int line : new int[] {4, 7, 11}) {
            read(x, 0, line);
        }
        x.load(2, 2);
        x.deliver(HearthCache.REQUEST, 4);
        x.load(0, 14);
        Check.is("LEAVING", x.stateOf(0, 2), 10);
        x.deliver(HearthCache.FORWARD, 0);
        Check.is("FETCH of a LEAVING line is answered", x.queued(HearthCache.ANSWER, 4), 1);
        x.deliver(HearthCache.REQUEST, 4);
        Check.is("PUT waits", x.waiting(2), 2);
        x.deliver(HearthCache.ANSWER, 4);
        Check.is("all served", x.waiting(2), 0);
        Check.is("both are sharers", x.sharers(2), 5);
        Check.is("value", x.home(2), 9);
        Check.is("LEAVING until DONE", x.stateOf(0, 2), 10);
        Check.is("DONE", x.deliver(HearthCache.ANSWER, 0), 2);
        Check.is("gone", x.stateOf(0, 2), 0);
        takeOfLeaving();
        killedWhileWaitingToWrite();
        oldKillEmptiesNewData();
    }

    private static void takeOfLeaving() {
        HearthCache x = new HearthCache();
        own(x, 0, 2, 9);
        for (int line : new int[] {4, 7, 11}) {
            read(x, 0, line);
        }
        x.load(0, 14);
        x.store(1, 2, 5);
        x.drain(1);
        // The WRITE comes after the PUT, which leaves no owner.
        x.deliver(HearthCache.REQUEST, 4);
        x.deliver(HearthCache.REQUEST, 4);
        x.deliver(HearthCache.REQUEST, 4);
        Check.is("no TAKE", x.counter(5), 0);
        Check.is("the writer is the owner", x.owner(2), 1);
        Check.is("home's value", x.home(2), 9);
        HearthCache y = new HearthCache();
        own(y, 0, 2, 9);
        for (int line : new int[] {4, 7, 11}) {
            read(y, 0, line);
        }
        y.store(1, 2, 5);
        y.drain(1);
        y.load(0, 14);
        y.deliver(HearthCache.REQUEST, 4);
        y.deliver(HearthCache.FORWARD, 0);
        y.deliver(HearthCache.ANSWER, 4);
        Check.is("TAKE of a LEAVING line", y.owner(2), 1);
        y.deliver(HearthCache.REQUEST, 4);
        Check.is("PUT of no owner takes no effect", y.owner(2), 1);
        y.pump(20);
        Check.is("DONE in any case", y.stateOf(0, 2), 0);
        Check.is("the store can be done", y.drain(1), true);
        Check.is("truth", y.truth(2), 5);
        Check.is("the home has the value of the ANSWER", y.home(2), 9);
    }

    private static void killedWhileWaitingToWrite() {
        HearthCache x = new HearthCache();
        read(x, 0, 6);
        read(x, 1, 6);
        x.store(0, 6, 3);
        x.store(1, 6, 4);
        x.drain(0);
        x.drain(1);
        x.deliver(HearthCache.REQUEST, 4);
        x.deliver(HearthCache.FORWARD, 1);
        Check.is("goes on waiting", x.stateOf(1, 6), HearthCache.WAITS_WRITE);
        Check.is("no value while it waits", x.valueIn(1, 6), -1);
        x.pump(20);
        Check.is("KILL does not empty what was to be written", x.drain(1), true);
        Check.is("core 0 has lost it before its store", x.drain(0), false);
        x.pump(20);
        x.drain(0);
        Check.is("the last store", x.truth(6), 3);
    }

    /** A KILL for a copy that went away silently comes while the line waits again: it empties what comes. */
    private static void oldKillEmptiesNewData() {
        HearthCache x = new HearthCache();
        read(x, 1, 0);
        read(x, 0, 0);
        for (int line : new int[] {5, 3, 9, 12}) {
            read(x, 0, line);
        }
        x.store(1, 0, 4);
        x.drain(1);
        x.deliver(HearthCache.REQUEST, 4);
        x.load(0, 0);
        Check.is("it waits again", x.stateOf(0, 0), HearthCache.WAITS_READ);
        x.deliver(HearthCache.FORWARD, 0);
        Check.is("it waits still", x.stateOf(0, 0), HearthCache.WAITS_READ);
        x.deliver(HearthCache.ANSWER, 4);
        x.deliver(HearthCache.ANSWER, 1);
        Check.is("the store is done", x.drain(1), true);
        x.pump(20);
        Check.is("the place is empty", x.stateOf(0, 0), 0);
        Check.is("the home takes it for a sharer", x.sharers(0), 3);
        Check.is("asked for again", x.load(0, 0), -1);
        x.pump(20);
        Check.is("that KILL counts no more", x.load(0, 0), 4);
    }

    private static void promise10Pump() {
        HearthCache x = new HearthCache();
        for (int bad : new int[] {0, 21, -1, Integer.MIN_VALUE, Integer.MAX_VALUE}) {
            Check.badArgument("pump " + bad, () -> x.pump(bad));
        }
        Check.is("nothing to deliver", x.pump(20), 0);
        x.load(0, 1);
        x.load(1, 2);
        x.load(2, 3);
        Check.is("one REQUEST a round", x.pump(1), 1);
        Check.is("its ANSWER is for the next round", x.queued(HearthCache.ANSWER, 0), 1);
        Check.is("an ANSWER and a REQUEST", x.pump(1), 2);
        Check.is("two rounds", x.pump(2), 3);
        Check.is("all done", x.pump(1), 0);
        own(x, 0, 1, 5);
        x.load(3, 1);
        x.pump(1);
        Check.is("FETCH is sent", x.queued(HearthCache.FORWARD, 0), 1);
        x.pump(1);
        Check.is("ANSWERs are before FORWARDs", x.queued(HearthCache.ANSWER, 4), 1);
        Check.is("the home's ANSWER, and DATA a round later", x.pump(1), 1);
        Check.is("DATA", x.pump(1), 1);
        HearthCache y = new HearthCache();
        read(y, 0, 1);
        read(y, 1, 1);
        own(y, 2, 9, 1);
        y.store(2, 1, 3);
        y.drain(2);
        Check.is("WRITE", y.pump(1), 1);
        Check.is("both KILLs in a round", y.pump(1), 2);
        Check.is("ANSWERs one a round", y.pump(1), 1);
        Check.is("the other", y.pump(1), 1);
        Check.is("twenty rounds are enough", y.pump(20), 1);
    }

    private static void promise11Queued() {
        HearthCache x = new HearthCache();
        for (int bad : NO_RECEIVERS) {
            Check.outOfBounds("queued no receiver", () -> x.queued(3, bad));
        }
        for (int bad : NO_CLASSES) {
            Check.badArgument("queued no class", () -> x.queued(bad, 0));
        }
        for (int core = 0; core < 4; core++) {
            x.load(core, 1);
            Check.is("REQUESTs", x.queued(HearthCache.REQUEST, 4), core + 1);
        }
        x.deliver(HearthCache.REQUEST, 4);
        Check.is("one less", x.queued(HearthCache.REQUEST, 4), 3);
        Check.is("DATA", x.queued(HearthCache.ANSWER, 0), 1);
        Check.is("to no other", x.queued(HearthCache.ANSWER, 1), 0);
        Check.is("cores get no REQUESTs", x.queued(HearthCache.REQUEST, 0), 0);
        Check.is("the home gets no FORWARDs", x.queued(HearthCache.FORWARD, 4), 0);
    }

    // ---- what there is

    private static void promise12StateOf() {
        HearthCache x = new HearthCache();
        for (int bad : NO_CORES) {
            Check.outOfBounds("stateOf no core", () -> x.stateOf(bad, 0));
        }
        for (int bad : NO_LINES) {
            Check.outOfBounds("stateOf no line", () -> x.stateOf(0, bad));
        }
        Check.is("INVALID", x.stateOf(0, 0), HearthCache.INVALID);
        x.load(0, 0);
        Check.is("WAITS_READ", x.stateOf(0, 0), HearthCache.WAITS_READ);
        x.pump(20);
        Check.is("EXCLUSIVE", x.stateOf(0, 0), HearthCache.EXCLUSIVE);
        own(x, 0, 0, 1);
        Check.is("MODIFIED", x.stateOf(0, 0), HearthCache.MODIFIED);
        read(x, 1, 0);
        states("read by another", x, 0, 1, 1, 0, 0);
        x.store(1, 0, 2);
        x.drain(1);
        Check.is("WAITS_WRITE", x.stateOf(1, 0), HearthCache.WAITS_WRITE);
        x.pump(20);
        states("written by another", x, 0, 0, 3, 0, 0);
        x.drain(1);
        for (int line = 1; line < 5; line++) {
            x.store(1, line, 1);
            x.drain(1);
            x.pump(20);
            x.drain(1);
        }
        Check.is("put back", x.stateOf(1, 0), 0);
        x.store(1, 6, 1);
        x.drain(1);
        Check.is("LEAVING", x.stateOf(1, 1), 10);
    }

    private static void promise13ValueIn() {
        HearthCache x = new HearthCache();
        for (int bad : NO_CORES) {
            Check.outOfBounds("valueIn no core", () -> x.valueIn(bad, 0));
        }
        for (int bad : NO_LINES) {
            Check.outOfBounds("valueIn no line", () -> x.valueIn(0, bad));
        }
        own(x, 2, 8, 44);
        Check.is("MODIFIED", x.valueIn(2, 8), 44);
        Check.is("of another core", x.valueIn(1, 8), -1);
        x.load(1, 8);
        Check.is("it waits", x.valueIn(1, 8), -1);
        x.pump(20);
        Check.is("SHARED", x.valueIn(1, 8), 44);
        Check.is("SHARED, too", x.valueIn(2, 8), 44);
        x.load(0, 9);
        x.pump(20);
        Check.is("EXCLUSIVE", x.valueIn(0, 9), 0);
        x.store(1, 8, 5);
        Check.is("the buffer is not the cache", x.valueIn(1, 8), 44);
        x.drain(1);
        Check.is("it waits to be written", x.valueIn(1, 8), -1);
        HearthCache y = new HearthCache();
        for (int line = 0; line < 4; line++) {
            own(y, 0, line, line + 1);
        }
        y.load(0, 4);
        Check.is("LEAVING has no value in the cache", y.valueIn(0, 0), -1);
        y.begin(1);
        y.store(1, 0, 9);
        Check.is("stores of a transaction are not in the cache", y.valueIn(1, 0), -1);
    }

    private static void promise14Home() {
        HearthCache x = new HearthCache();
        for (int bad : NO_LINES) {
            Check.outOfBounds("home no line", () -> x.home(bad));
        }
        own(x, 0, 15, 321);
        Check.is("the home does not know", x.home(15), 0);
        x.load(1, 15);
        x.deliver(HearthCache.REQUEST, 4);
        x.deliver(HearthCache.FORWARD, 0);
        Check.is("on the way", x.home(15), 0);
        x.deliver(HearthCache.ANSWER, 4);
        Check.is("it has come", x.home(15), 321);
        own(x, 2, 7, 5);
        own(x, 3, 7, 6);
        Check.is("a value in the ANSWER of TAKE", x.home(7), 5);
        for (int line = 0; line < 4; line++) {
            own(x, 3, line, 1);
        }
        x.pump(20);
        Check.is("by PUT", x.home(7), 6);
    }

    private static void promise15Owner() {
        HearthCache x = new HearthCache();
        for (int bad : NO_LINES) {
            Check.outOfBounds("owner no line", () -> x.owner(bad));
        }
        x.load(3, 0);
        Check.is("nothing has come", x.owner(0), -1);
        x.deliver(HearthCache.REQUEST, 4);
        Check.is("the first reader", x.owner(0), 3);
        x.load(1, 0);
        x.deliver(HearthCache.REQUEST, 4);
        Check.is("until the ANSWER", x.owner(0), 3);
        x.pump(20);
        Check.is("shared", x.owner(0), -1);
        own(x, 1, 0, 3);
        Check.is("the writer", x.owner(0), 1);
        for (int line = 1; line < 5; line++) {
            own(x, 1, line, 1);
        }
        x.pump(20);
        Check.is("put back", x.owner(0), -1);
    }

    private static void promise16Sharers() {
        HearthCache x = new HearthCache();
        for (int bad : NO_LINES) {
            Check.outOfBounds("sharers no line", () -> x.sharers(bad));
        }
        read(x, 1, 4);
        Check.is("the owner is no sharer", x.sharers(4), 0);
        read(x, 3, 4);
        Check.is("two", x.sharers(4), 10);
        read(x, 0, 4);
        Check.is("overflowed", x.sharers(4), 15);
        Check.is("counted", x.counter(9), 1);
        read(x, 2, 4);
        Check.is("once", x.counter(9), 1);
        own(x, 2, 4, 9);
        Check.is("none any more", x.sharers(4), 0);
        Check.is("KILL to all others", x.counter(4), 3);
        read(x, 0, 4);
        Check.is("known again", x.sharers(4), 5);
        read(x, 1, 4);
        Check.is("overflowed again", x.counter(9), 2);
        HearthCache y = new HearthCache();
        read(y, 1, 0);
        read(y, 0, 0);
        for (int line : new int[] {5, 3, 9, 12}) {
            read(y, 0, line);
        }
        Check.is("went silently", y.stateOf(0, 0), 0);
        read(y, 0, 0);
        Check.is("a sharer again is no third one", y.sharers(0), 3);
        Check.is("no overflow", y.counter(9), 0);
        own(y, 1, 0, 1);
        Check.is("one KILL", y.counter(4), 1);
    }

    private static void promise17Waiting() {
        HearthCache x = new HearthCache();
        for (int bad : NO_LINES) {
            Check.outOfBounds("waiting no line", () -> x.waiting(bad));
        }
        own(x, 0, 5, 1);
        Check.is("none", x.waiting(5), 0);
        for (int core = 1; core < 4; core++) {
            x.load(core, 5);
            Check.is("in the queue it does not wait yet", x.waiting(5), core - 1);
            x.deliver(HearthCache.REQUEST, 4);
            Check.is("busy, and the row", x.waiting(5), core);
        }
        Check.is("other lines", x.waiting(4), 0);
        x.deliver(HearthCache.FORWARD, 0);
        Check.is("until the ANSWER", x.waiting(5), 3);
        x.deliver(HearthCache.ANSWER, 4);
        Check.is("all READs are served", x.waiting(5), 0);
    }

    private static void promise18Truth() {
        HearthCache x = new HearthCache();
        for (int bad : NO_LINES) {
            Check.outOfBounds("truth no line", () -> x.truth(bad));
        }
        Check.is("the home's", x.truth(0), 0);
        own(x, 0, 0, 5);
        Check.is("the owner's", x.truth(0), 5);
        x.store(0, 0, 6);
        Check.is("not the buffer's", x.truth(0), 5);
        x.drain(0);
        Check.is("drained", x.truth(0), 6);
        for (int line = 1; line < 4; line++) {
            own(x, 0, line, line);
        }
        x.load(0, 9);
        Check.is("LEAVING", x.stateOf(0, 0), 10);
        Check.is("its value", x.truth(0), 6);
        Check.is("the home has another", x.home(0), 0);
        x.pump(20);
        Check.is("put back", x.truth(0), 6);
        own(x, 0, 5, 71);
        own(x, 0, 6, 72);
        x.store(1, 6, 1);
        x.drain(1);
        x.load(2, 5);
        x.deliver(HearthCache.REQUEST, 4);
        x.deliver(HearthCache.REQUEST, 4);
        x.deliver(HearthCache.FORWARD, 0);
        x.deliver(HearthCache.FORWARD, 0);
        Check.is("on the way, with a TAKE", x.truth(6), 72);
        Check.is("on the way, with a FETCH, behind another", x.truth(5), 71);
        Check.is("no cache has it to be written", x.stateOf(0, 6), 0);
        x.deliver(HearthCache.ANSWER, 4);
        Check.is("the new owner waits: the home's", x.truth(6), 72);
    }

    private static void promise19IsCoherent() {
        HearthCache x = new HearthCache();
        for (int core = 0; core < 4; core++) {
            x.load(core, 1);
            x.store(core, 2, core);
            x.drain(core);
            Check.is("always", x.isCoherent(), true);
        }
        for (int i = 0; i < 20; i++) {
            x.pump(1);
            Check.is("always", x.isCoherent(), true);
            x.drain(i % 4);
            Check.is("always", x.isCoherent(), true);
        }
    }

    private static void promise20Counter() {
        HearthCache x = new HearthCache();
        for (int bad : new int[] {-1, 10, Integer.MIN_VALUE, Integer.MAX_VALUE}) {
            Check.badArgument("counter " + bad, () -> x.counter(bad));
        }
        read(x, 0, 1);
        counters("a load", x, 1, 1, 0, 0, 0, 0, 0, 0, 0, 0);
        own(x, 1, 1, 7);
        counters("a store by another", x, 1, 1, 1, 0, 0, 1, 0, 0, 0, 0);
        read(x, 2, 1);
        counters("FETCH", x, 2, 2, 1, 0, 0, 2, 0, 0, 0, 0);
        own(x, 3, 1, 7);
        counters("two KILLs", x, 2, 2, 2, 0, 2, 2, 0, 0, 0, 0);
        x.begin(3);
        x.load(3, 1);
        x.store(3, 1, 2);
        x.load(3, 1);
        x.end(3);
        counters("ended well", x, 3, 2, 2, 0, 2, 2, 0, 1, 0, 0);
    }

    // ---- programs

    private static void promise21Clear() {
        HearthCache x = new HearthCache();
        Check.is("empty", x.clear(), 0);
        x.step(0, HearthCache.LOAD, 0, 0);
        x.step(2, HearthCache.ADD, 0, 0);
        x.step(2, HearthCache.FENCE, 0, 0);
        Check.is("two outcomes", x.outcomes(0), 2);
        Check.is("two outcomes", x.outcomes(1), 2);
        Check.is("three steps", x.clear(), 3);
        Check.is("none any more", x.clear(), 0);
        outcomesAre("cleared", x, 0, 0);
        outcomesAre("cleared", x, 1, 0);
        Check.is("steps from the start", x.step(2, HearthCache.STORE, 2, 9), 1);
        Check.is("the caches are as they were", x.counter(1), 0);
        own(x, 0, 0, 3);
        x.clear();
        Check.is("lines stay", x.truth(0), 3);
    }

    private static void promise22Step() {
        HearthCache x = new HearthCache();
        for (int bad : new int[] {-1, 3, Integer.MIN_VALUE, Integer.MAX_VALUE}) {
            Check.outOfBounds("step no thread", () -> x.step(bad, 9, 0, 0));
            Check.outOfBounds("step no thread, FENCE", () -> x.step(bad, HearthCache.FENCE, 0, 0));
            Check.outOfBounds("step no place, STORE", () -> x.step(0, HearthCache.STORE, bad, 0));
            Check.outOfBounds("step no place, LOAD", () -> x.step(0, HearthCache.LOAD, bad, 1));
            Check.outOfBounds("step no place, ADD", () -> x.step(0, HearthCache.ADD, bad, 1));
        }
        Check.badArgument("what -1", () -> x.step(0, -1, 0, 1));
        Check.badArgument("what 4", () -> x.step(0, 4, 0, 1));
        Check.badArgument("value 0", () -> x.step(0, HearthCache.STORE, 0, 0));
        Check.badArgument("value 10", () -> x.step(0, HearthCache.STORE, 0, 10));
        Check.is("nothing was added", x.clear(), 0);
        Check.is("place is not looked at", x.step(0, HearthCache.FENCE, 77, -5), 1);
        Check.is("value is not looked at", x.step(0, HearthCache.LOAD, 2, -5), 2);
        Check.is("value is not looked at, ADD", x.step(0, HearthCache.ADD, 0, 500), 3);
        Check.is("four", x.step(0, HearthCache.STORE, 0, 9), 4);
        Check.badState("a fifth", () -> x.step(0, HearthCache.LOAD, 0, 0));
        Check.badArgument("what goes first", () -> x.step(0, 4, 0, 0));
        Check.outOfBounds("place goes first", () -> x.step(0, HearthCache.LOAD, 3, 0));
        Check.is("another thread", x.step(1, HearthCache.LOAD, 0, 0), 1);
        Check.is("a third thread", x.step(2, HearthCache.LOAD, 0, 0), 1);
        Check.badState("six together", () -> x.step(1, HearthCache.LOAD, 0, 0));
        Check.badState("six together, FENCE", () -> x.step(2, HearthCache.FENCE, 0, 0));
        Check.is("six", x.clear(), 6);
    }

    private static void promise23Outcomes() {
        HearthCache x = new HearthCache();
        for (int bad : new int[] {-1, 2, Integer.MIN_VALUE, Integer.MAX_VALUE}) {
            Check.badArgument("outcomes " + bad, () -> x.outcomes(bad));
        }
        outcomesAre("empty", x, 0, 0);
        outcomesAre("empty", x, 1, 0);
        storeBuffering(x, false);
        outcomesAre("store buffering", x, 0, 1, 10, 11);
        outcomesAre("store buffering", x, 1, 0, 1, 10, 11);
        x.clear();
        storeBuffering(x, true);
        outcomesAre("with fences", x, 0, 1, 10, 11);
        outcomesAre("with fences", x, 1, 1, 10, 11);
        x.clear();
        messagePassing(x);
        outcomesAre("message passing", x, 0, 0, 1, 11);
        outcomesAre("message passing", x, 1, 0, 1, 11);
        x.clear();
        for (int thread = 0; thread < 3; thread++) {
            x.step(thread, HearthCache.STORE, thread, 1);
            x.step(thread, HearthCache.LOAD, (thread + 1) % 3, 0);
        }
        Check.is("a ring, STRICT", x.outcomes(0), 7);
        Check.is("a ring, BUFFERED", x.outcomes(1), 8);
        x.clear();
        x.step(0, HearthCache.STORE, 0, 4);
        x.step(0, HearthCache.STORE, 0, 5);
        x.step(0, HearthCache.LOAD, 0, 0);
        outcomesAre("the latest of the buffer", x, 1, 5);
        x.step(1, HearthCache.LOAD, 0, 0);
        outcomesAre("seen by another", x, 0, 50, 54, 55);
        outcomesAre("seen by another", x, 1, 50, 54, 55);
        x.clear();
        x.step(0, HearthCache.STORE, 0, 1);
        x.step(0, HearthCache.LOAD, 0, 0);
        outcomesAre("the only one of the buffer", x, 0, 1);
        outcomesAre("the only one of the buffer", x, 1, 1);
        x.step(1, HearthCache.STORE, 0, 2);
        outcomesAre("its store is overwritten", x, 0, 1, 2);
        outcomesAre("its store is overwritten", x, 1, 1, 2);
    }

    private static void storeBuffering(HearthCache x, boolean fences) {
        for (int thread = 0; thread < 2; thread++) {
            x.step(thread, HearthCache.STORE, thread, 1);
            if (fences) {
                x.step(thread, HearthCache.FENCE, 0, 0);
            }
            x.step(thread, HearthCache.LOAD, 1 - thread, 0);
        }
    }

    private static void messagePassing(HearthCache x) {
        x.step(0, HearthCache.STORE, 0, 1);
        x.step(0, HearthCache.STORE, 1, 1);
        x.step(1, HearthCache.LOAD, 1, 0);
        x.step(1, HearthCache.LOAD, 0, 0);
    }

    private static void promise24Outcome() {
        HearthCache x = new HearthCache();
        x.step(0, HearthCache.STORE, 0, 9);
        x.step(0, HearthCache.ADD, 0, 0);
        x.step(0, HearthCache.ADD, 0, 0);
        x.step(0, HearthCache.LOAD, 0, 0);
        outcomesAre("above 9 is told as 9", x, 0, 999);
        outcomesAre("above 9 is told as 9", x, 1, 999);
        x.step(1, HearthCache.LOAD, 0, 0);
        outcomesAre("by threads, then steps", x, 0, 9990, 9999);
        x.clear();
        x.step(2, HearthCache.LOAD, 0, 0);
        x.step(0, HearthCache.ADD, 0, 0);
        outcomesAre("the first one is the highest", x, 0, 0, 1);
        for (int bad : new int[] {-1, 2, Integer.MIN_VALUE, Integer.MAX_VALUE}) {
            Check.badArgument("the model goes first", () -> x.outcome(bad, -1));
            Check.outOfBounds("no such outcome", () -> x.outcome(0, bad));
            Check.outOfBounds("no such outcome", () -> x.outcome(1, bad));
        }
        x.clear();
        x.step(0, HearthCache.STORE, 1, 1);
        x.step(0, HearthCache.ADD, 0, 0);
        x.step(0, HearthCache.LOAD, 1, 0);
        x.step(1, HearthCache.ADD, 0, 0);
        x.step(1, HearthCache.LOAD, 1, 0);
        outcomesAre("an addition behind a store", x, 0, 111, 1100, 1101);
        outcomesAre("an addition waits for the buffer", x, 1, 111, 1100, 1101);
    }

    private static void promise25OutcomesAnew() {
        HearthCache x = new HearthCache();
        for (int bad : new int[] {-1, 2, Integer.MIN_VALUE, Integer.MAX_VALUE}) {
            Check.badArgument("outcomesAnew " + bad, () -> x.outcomesAnew(bad));
        }
        Check.is("empty", x.outcomesAnew(0), 1);
        Check.is("empty", x.outcomesAnew(1), 1);
        storeBuffering(x, false);
        Check.is("STRICT", x.outcomesAnew(0), 3);
        Check.is("BUFFERED", x.outcomesAnew(1), 4);
        x.step(2, HearthCache.LOAD, 0, 0);
        Check.is("with one more step", x.outcomesAnew(0), x.outcomes(0));
        Check.is("with one more step", x.outcomesAnew(1), x.outcomes(1));
        x.clear();
        for (int i = 0; i < 6; i++) {
            x.step(i % 3, HearthCache.ADD, 0, 0);
        }
        Check.is("six additions", x.outcomesAnew(0), 90);
        Check.is("six additions", x.outcomesAnew(1), 90);
    }

    private static void promise26AreAlike() {
        HearthCache x = new HearthCache();
        Check.is("empty", x.areAlike(), true);
        messagePassing(x);
        Check.is("message passing", x.areAlike(), true);
        x.clear();
        storeBuffering(x, false);
        Check.is("store buffering", x.areAlike(), false);
        x.clear();
        storeBuffering(x, true);
        Check.is("with fences", x.areAlike(), true);
        x.clear();
        x.step(0, HearthCache.STORE, 0, 1);
        x.step(0, HearthCache.ADD, 2, 0);
        x.step(0, HearthCache.LOAD, 1, 0);
        x.step(1, HearthCache.STORE, 1, 1);
        x.step(1, HearthCache.ADD, 2, 0);
        Check.is("additions are fences", x.areAlike(), true);
        x.step(1, HearthCache.LOAD, 0, 0);
        Check.is("additions are fences in both", x.areAlike(), true);
    }
}
