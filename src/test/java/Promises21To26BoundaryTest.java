/** Boundary cases of the promises 21 to 26: programs. */
public final class Promises21To26BoundaryTest extends Cases {
    public static void main(String[] args) {
        runAll(Promises21To26BoundaryTest.class);
    }

    /** Two threads that store to a place each, and load that of the other: 3 outcomes by STRICT, 4 by BUFFERED. */
    private static HearthCache withUnlikeModels() {
        HearthCache x = new HearthCache();
        x.step(0, STORE, 0, 1);
        x.step(0, LOAD, 1, 0);
        x.step(1, STORE, 1, 1);
        x.step(1, LOAD, 0, 0);
        return x;
    }

    private static HearthCache withSixSteps() {
        HearthCache x = new HearthCache();
        for (int i = 0; i < 6; i++) {
            x.step(i % 3, ADD, 0, 0);
        }
        return x;
    }

    // ---- promise 21: clear

    @Sentence("Empties the program; returns how many steps it had.")
    static void promise21ClearAnEmptyProgram() {
        HearthCache x = new HearthCache();
        is("new", x.clear(), 0);
        is("once more", x.clear(), 0);
        outcomesAre(x, STRICT, 0);
        outcomesAre(x, BUFFERED, 0);
    }

    @Sentence("Empties the program; returns how many steps it had.")
    static void promise21ClearAFullProgram() {
        HearthCache x = withSixSteps();
        is("six", x.clear(), 6);
        is("none any more", x.clear(), 0);
        for (int i = 0; i < 4; i++) {
            is("thread 2 has room", x.step(2, ADD, 0, 0), i + 1);
        }
        is("four", x.clear(), 4);
    }

    @Sentence("Empties the program; returns how many steps it had.")
    static void promise21ClearForgetsOutcomes() {
        HearthCache x = withUnlikeModels();
        is("before", x.outcomes(BUFFERED), 4);
        is("unlike", x.areAlike(), false);
        x.clear();
        outcomesAre(x, STRICT, 0);
        outcomesAre(x, BUFFERED, 0);
        is("alike", x.areAlike(), true);
        x.step(2, STORE, 2, 9);
        x.step(2, LOAD, 2, 0);
        outcomesAre(x, STRICT, 9);
        outcomesAre(x, BUFFERED, 9);
    }

    @Sentence("Empties the program; returns how many steps it had.")
    static void promise21ClearLeavesTheCaches() {
        HearthCache x = new HearthCache();
        own(x, 0, 3, 7);
        x.store(0, 5, 8);
        x.load(1, 9);
        x.step(0, ADD, 0, 0);
        x.clear();
        is("value", x.truth(3), 7);
        is("buffer", x.load(0, 5), 8);
        is("messages", x.queued(REQUEST, HOME), 1);
        is("counters", x.counter(WRITES), 1);
    }

    // ---- promise 22: step

    @Sentence("Throws `IndexOutOfBoundsException` if there is no such thread, or place")
    static void promise22StepThreadTooSmall() {
        HearthCache x = new HearthCache();
        for (int what = STORE; what <= ADD; what++) {
            int of = what;
            noneBelow0(thread -> x.step(thread, of, 0, 1));
        }
    }

    @Sentence("Throws `IndexOutOfBoundsException` if there is no such thread, or place")
    static void promise22StepThreadTooLarge() {
        HearthCache x = new HearthCache();
        for (int what = STORE; what <= ADD; what++) {
            int of = what;
            noneAbove(2, thread -> x.step(thread, of, 0, 1));
        }
    }

    @Sentence("Throws `IndexOutOfBoundsException` if there is no such thread, or place")
    static void promise22StepPlaceTooSmall() {
        HearthCache x = new HearthCache();
        for (int what : new int[] {STORE, LOAD, ADD}) {
            noneBelow0(place -> x.step(0, what, place, 1));
        }
    }

    @Sentence("Throws `IndexOutOfBoundsException` if there is no such thread, or place")
    static void promise22StepPlaceTooLarge() {
        HearthCache x = new HearthCache();
        for (int what : new int[] {STORE, LOAD, ADD}) {
            noneAbove(2, place -> x.step(0, what, place, 1));
        }
    }

    @Sentence("- `place`: 0 to 2; not looked at for FENCE")
    static void promise22StepPlaceOfAFenceIsNotLookedAt() {
        HearthCache x = new HearthCache();
        int steps = 0;
        for (int place : new int[] {-1, 3, Integer.MIN_VALUE, Integer.MAX_VALUE}) {
            steps++;
            is("place " + place, x.step(0, FENCE, place, 1), steps);
        }
        outcomesAre(x, STRICT, 0);
        outcomesAre(x, BUFFERED, 0);
    }

    @Sentence("Throws `IllegalArgumentException` if what or value is out of range")
    static void promise22StepWhatTooSmall() {
        HearthCache x = new HearthCache();
        tooSmallBelow(0, what -> x.step(0, what, 0, 1));
    }

    @Sentence("Throws `IllegalArgumentException` if what or value is out of range")
    static void promise22StepWhatTooLarge() {
        HearthCache x = new HearthCache();
        tooLargeAbove(3, what -> x.step(0, what, 0, 1));
    }

    @Sentence("Throws `IllegalArgumentException` if what or value is out of range")
    static void promise22StepValueTooSmall() {
        HearthCache x = new HearthCache();
        tooSmallBelow(1, value -> x.step(0, STORE, 0, value));
        badArgument("-1", () -> x.step(0, STORE, 0, -1));
    }

    @Sentence("Throws `IllegalArgumentException` if what or value is out of range")
    static void promise22StepValueTooLarge() {
        HearthCache x = new HearthCache();
        tooLargeAbove(9, value -> x.step(0, STORE, 0, value));
    }

    @Sentence("- `value`: 1 to 9; not looked at but for STORE")
    static void promise22StepValueIsLookedAtForAStoreAlone() {
        for (int value : new int[] {0, 10, -1, Integer.MIN_VALUE, Integer.MAX_VALUE}) {
            HearthCache x = new HearthCache();
            is("LOAD", x.step(0, LOAD, 0, value), 1);
            is("FENCE", x.step(0, FENCE, 0, value), 2);
            is("ADD", x.step(0, ADD, 0, value), 3);
            x.step(0, LOAD, 0, value);
            outcomesAre(x, STRICT, 1);
            outcomesAre(x, BUFFERED, 1);
        }
    }

    @Sentence("- `value`: 1 to 9; not looked at but for STORE")
    static void promise22StepTheLeastAndTheGreatest() {
        HearthCache x = new HearthCache();
        is("thread 0, place 0, value 1", x.step(0, STORE, 0, 1), 1);
        is("thread 2, place 2, value 9", x.step(2, STORE, 2, 9), 1);
        x.step(0, LOAD, 0, 0);
        x.step(2, LOAD, 2, 0);
        outcomesAre(x, STRICT, 19);
        outcomesAre(x, BUFFERED, 19);
    }

    @Sentence("Throws `IllegalStateException` if it has 4, or all threads have 6 together")
    static void promise22StepAFifthOfAThread() {
        for (int thread = 0; thread < 3; thread++) {
            HearthCache x = new HearthCache();
            int of = thread;
            for (int i = 1; i <= 4; i++) {
                is("step " + i, x.step(thread, STORE, 0, i), i);
            }
            for (int what = STORE; what <= ADD; what++) {
                int one = what;
                badState("a fifth, " + what, () -> x.step(of, one, 0, 1));
            }
            is("four", x.clear(), 4);
        }
    }

    @Sentence("Throws `IllegalStateException` if it has 4, or all threads have 6 together")
    static void promise22StepASeventhOfTheProgram() {
        HearthCache x = withSixSteps();
        for (int thread = 0; thread < 3; thread++) {
            int of = thread;
            badState("two each, thread " + thread, () -> x.step(of, FENCE, 0, 1));
        }
        is("six", x.clear(), 6);
    }

    @Sentence("Throws `IllegalStateException` if it has 4, or all threads have 6 together")
    static void promise22StepASixthOfTheProgram() {
        HearthCache x = new HearthCache();
        for (int i = 0; i < 4; i++) {
            x.step(1, LOAD, 0, 0);
        }
        is("a fifth", x.step(0, LOAD, 0, 0), 1);
        is("a sixth of a thread without any", x.step(2, LOAD, 0, 0), 1);
        badState("a seventh", () -> x.step(2, LOAD, 0, 0));
    }

    @Sentence("Adds a step to a thread.")
    static void promise22StepChangesOutcomesThatWereTold() {
        HearthCache x = new HearthCache();
        x.step(0, ADD, 0, 0);
        outcomesAre(x, STRICT, 0);
        outcomesAre(x, BUFFERED, 0);
        x.step(0, ADD, 0, 0);
        outcomesAre(x, STRICT, 1);
        outcomesAre(x, BUFFERED, 1);
    }

    // ---- promise 23: outcomes

    @Sentence("Throws `IllegalArgumentException` if model is out of range")
    static void promise23OutcomesModelTooSmall() {
        HearthCache x = new HearthCache();
        tooSmallBelow(0, x::outcomes);
    }

    @Sentence("Throws `IllegalArgumentException` if model is out of range")
    static void promise23OutcomesModelTooLarge() {
        HearthCache x = new HearthCache();
        tooLargeAbove(1, x::outcomes);
    }

    @Sentence("Returns how many unlike ones.")
    static void promise23OutcomesOfAnEmptyAndOfAFullProgram() {
        HearthCache x = new HearthCache();
        is("empty, STRICT", x.outcomes(STRICT), 1);
        is("empty, BUFFERED", x.outcomes(BUFFERED), 1);
        HearthCache y = withSixSteps();
        is("full, STRICT", y.outcomes(STRICT), 90);
        is("full, BUFFERED", y.outcomes(BUFFERED), 90);
        HearthCache z = withUnlikeModels();
        is("unlike, STRICT", z.outcomes(STRICT), 3);
        is("unlike, BUFFERED", z.outcomes(BUFFERED), 4);
    }

    /** 90 orders of six loads, and one outcome. */
    @Sentence("Returns how many unlike ones.")
    static void promise23OutcomesCountLikeOnesOnce() {
        HearthCache x = new HearthCache();
        for (int i = 0; i < 6; i++) {
            x.step(i % 3, LOAD, i % 3, 0);
        }
        is("STRICT", x.outcomes(STRICT), 1);
        is("BUFFERED", x.outcomes(BUFFERED), 1);
    }

    // ---- promise 24: outcome

    @Sentence("Throws `IllegalArgumentException` if model is out of range; that goes first here")
    static void promise24OutcomeModelTooSmall() {
        HearthCache x = new HearthCache();
        tooSmallBelow(0, model -> x.outcome(model, 0));
        tooSmallBelow(0, model -> x.outcome(model, 1));
    }

    @Sentence("Throws `IllegalArgumentException` if model is out of range; that goes first here")
    static void promise24OutcomeModelTooLarge() {
        HearthCache x = new HearthCache();
        tooLargeAbove(1, model -> x.outcome(model, 0));
        tooLargeAbove(1, model -> x.outcome(model, -1));
    }

    @Sentence("Throws `IndexOutOfBoundsException` if there is no such outcome")
    static void promise24OutcomePlaceTooSmall() {
        HearthCache x = withUnlikeModels();
        noneBelow0(place -> x.outcome(STRICT, place));
        noneBelow0(place -> x.outcome(BUFFERED, place));
    }

    /** There are 3 by STRICT and 4 by BUFFERED: the place 3 is one by BUFFERED alone. */
    @Sentence("Throws `IndexOutOfBoundsException` if there is no such outcome")
    static void promise24OutcomePlaceTooLarge() {
        HearthCache x = withUnlikeModels();
        noneAbove(3, place -> x.outcome(BUFFERED, place));
        noneAbove(2, place -> x.outcome(STRICT, place));
        is("the last one by STRICT", x.outcome(STRICT, 2), 11);
        is("the last one by BUFFERED", x.outcome(BUFFERED, 3), 11);
    }

    @Sentence("Throws `IndexOutOfBoundsException` if there is no such outcome")
    static void promise24OutcomePlaceOfAnEmptyProgram() {
        HearthCache x = new HearthCache();
        is("the only one", x.outcome(STRICT, 0), 0);
        noneAbove(0, place -> x.outcome(STRICT, place));
        noneAbove(0, place -> x.outcome(BUFFERED, place));
    }

    /** Asked for before anything else has looked for outcomes. */
    @Sentence("- `place`: 0 for the least one")
    static void promise24OutcomeTheLeastIsTheFirst() {
        HearthCache x = withUnlikeModels();
        is("BUFFERED", x.outcome(BUFFERED, 0), 0);
        is("STRICT", x.outcome(STRICT, 0), 1);
        HearthCache y = withSixSteps();
        int before = -1;
        for (int place = 0; place < 90; place++) {
            int outcome = y.outcome(STRICT, place);
            is("they rise at " + place, outcome > before, true);
            before = outcome;
        }
        noneAbove(89, place -> y.outcome(STRICT, place));
    }

    // ---- promise 25: outcomesAnew

    @Sentence("Throws `IllegalArgumentException` if model is out of range")
    static void promise25OutcomesAnewModelTooSmall() {
        HearthCache x = new HearthCache();
        tooSmallBelow(0, x::outcomesAnew);
    }

    @Sentence("Throws `IllegalArgumentException` if model is out of range")
    static void promise25OutcomesAnewModelTooLarge() {
        HearthCache x = new HearthCache();
        tooLargeAbove(1, x::outcomesAnew);
    }

    @Sentence("found by going through all orders of its steps one by one")
    static void promise25OutcomesAnewOfAnEmptyAndOfAFullProgram() {
        HearthCache x = new HearthCache();
        is("empty, STRICT", x.outcomesAnew(STRICT), 1);
        is("empty, BUFFERED", x.outcomesAnew(BUFFERED), 1);
        HearthCache y = withSixSteps();
        is("full, STRICT", y.outcomesAnew(STRICT), 90);
        is("full, BUFFERED", y.outcomesAnew(BUFFERED), 90);
        HearthCache z = withUnlikeModels();
        is("unlike, STRICT", z.outcomesAnew(STRICT), 3);
        is("unlike, BUFFERED", z.outcomesAnew(BUFFERED), 4);
    }

    @Sentence("found by going through all orders of its steps one by one")
    static void promise25OutcomesAnewOfOneStep() {
        for (int thread = 0; thread < 3; thread++) {
            HearthCache x = new HearthCache();
            x.step(thread, ADD, 2, 0);
            is("STRICT", x.outcomesAnew(STRICT), 1);
            is("BUFFERED", x.outcomesAnew(BUFFERED), 1);
        }
    }

    @Sentence("found by going through all orders of its steps one by one")
    static void promise25OutcomesAnewLeaveTheOthersAsTheyAre() {
        HearthCache x = withUnlikeModels();
        is("BUFFERED", x.outcomes(BUFFERED), 4);
        is("STRICT anew", x.outcomesAnew(STRICT), 3);
        is("BUFFERED still", x.outcomes(BUFFERED), 4);
        is("STRICT", x.outcomes(STRICT), 3);
        is("its last one", x.outcome(STRICT, 2), 11);
    }

    // ---- promise 26: areAlike

    @Sentence("Tells whether the program has the same outcomes by both models.")
    static void promise26AreAlikeForAnEmptyProgram() {
        HearthCache x = new HearthCache();
        is("empty", x.areAlike(), true);
    }

    @Sentence("Tells whether the program has the same outcomes by both models.")
    static void promise26AreAlikeForFullPrograms() {
        is("six additions", withSixSteps().areAlike(), true);
        HearthCache x = withUnlikeModels();
        is("unlike", x.areAlike(), false);
        x.step(2, LOAD, 0, 0);
        x.step(2, LOAD, 1, 0);
        is("unlike, with six steps", x.areAlike(), false);
    }

    @Sentence("Tells whether the program has the same outcomes by both models.")
    static void promise26AreAlikeFollowsEachStep() {
        HearthCache x = new HearthCache();
        x.step(0, STORE, 0, 1);
        is("one step", x.areAlike(), true);
        x.step(0, LOAD, 1, 0);
        is("two steps", x.areAlike(), true);
        x.step(1, STORE, 1, 1);
        is("three steps", x.areAlike(), true);
        x.step(1, LOAD, 0, 0);
        is("four steps", x.areAlike(), false);
        x.clear();
        is("cleared", x.areAlike(), true);
    }
}
