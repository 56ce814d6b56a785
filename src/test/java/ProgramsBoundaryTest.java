/** Boundary cases of "Programs". */
public final class ProgramsBoundaryTest extends Cases {
    public static void main(String[] args) {
        runAll(ProgramsBoundaryTest.class);
    }

    private static void steps(HearthCache x, int thread, int... whatPlaceValue) {
        for (int i = 0; i + 2 < whatPlaceValue.length; i += 3) {
            x.step(thread, whatPlaceValue[i], whatPlaceValue[i + 1], whatPlaceValue[i + 2]);
        }
    }

    // ---- threads, steps, places, values

    @Sentence("A program has up to 3 threads, 0 to 2, each of at most 4 steps")
    static void programsOfOneThreadHaveAtMostFourSteps() {
        for (int thread = 0; thread < 3; thread++) {
            HearthCache x = new HearthCache();
            int of = thread;
            for (int i = 1; i <= 4; i++) {
                is("thread " + thread, x.step(thread, ADD, 0, 0), i);
            }
            badState("a fifth step of thread " + thread, () -> x.step(of, ADD, 0, 0));
            is("the others have none", x.step((thread + 1) % 3, LOAD, 1, 0), 1);
            is("five", x.clear(), 5);
        }
    }

    @Sentence("A program has up to 3 threads, 0 to 2")
    static void programsHaveThreeThreads() {
        HearthCache x = new HearthCache();
        for (int thread = 0; thread < 3; thread++) {
            is("thread " + thread, x.step(thread, ADD, thread, 0), 1);
        }
        outOfBounds("thread 3", () -> x.step(3, ADD, 0, 0));
        outcomesAre(x, STRICT, 0);
        outcomesAre(x, BUFFERED, 0);
    }

    @Sentence("over the places 0 to 2, all 0 at first")
    static void programsHaveThreePlacesThatAre0AtFirst() {
        HearthCache x = new HearthCache();
        for (int place = 0; place < 3; place++) {
            x.step(0, LOAD, place, 0);
        }
        outcomesAre(x, STRICT, 0);
        outcomesAre(x, BUFFERED, 0);
    }

    @Sentence("over the places 0 to 2, all 0 at first")
    static void programsHavePlacesThatAreApart() {
        HearthCache x = new HearthCache();
        steps(x, 0, STORE, 0, 4, STORE, 1, 5, STORE, 2, 6, LOAD, 1, 0);
        outcomesAre(x, STRICT, 5);
        outcomesAre(x, BUFFERED, 5);
        x.clear();
        steps(x, 1, STORE, 2, 6, LOAD, 0, 0, LOAD, 1, 0, LOAD, 2, 0);
        outcomesAre(x, STRICT, 6);
        outcomesAre(x, BUFFERED, 6);
    }

    @Sentence("all 0 at first")
    static void programsBeginWith0EachTime() {
        HearthCache x = new HearthCache();
        x.step(0, ADD, 0, 0);
        for (int i = 0; i < 3; i++) {
            is("STRICT", x.outcome(STRICT, 0), 0);
            is("BUFFERED", x.outcome(BUFFERED, 0), 0);
            is("STRICT anew", x.outcomesAnew(STRICT), 1);
            is("BUFFERED anew", x.outcomesAnew(BUFFERED), 1);
        }
        x.step(1, LOAD, 0, 0);
        outcomesAre(x, STRICT, 0, 1);
    }

    /** 19 and 20 are two outcomes: a place that is 0 at first counts as the digit 0, behind a 9 as behind others. */
    @Sentence("over the places 0 to 2, all 0 at first")
    static void programsTellAPlaceThatIs0AtFirstAs0() {
        HearthCache x = new HearthCache();
        steps(x, 0, LOAD, 0, 0, LOAD, 1, 0);
        steps(x, 1, STORE, 0, 1, STORE, 1, 9);
        steps(x, 2, STORE, 0, 2);
        outcomesAre(x, STRICT, 0, 9, 10, 19, 20, 29);
        outcomesAre(x, BUFFERED, 0, 9, 10, 19, 20, 29);
    }

    @Sentence("The program is over when all steps are done, and all buffers are empty.")
    static void programsWithoutStepsHaveOneOutcome() {
        HearthCache x = new HearthCache();
        outcomesAre(x, STRICT, 0);
        outcomesAre(x, BUFFERED, 0);
        is("alike", x.areAlike(), true);
    }

    @Sentence("Loads and additions give results.")
    static void programsWithoutResultsHaveOneOutcome() {
        HearthCache x = new HearthCache();
        steps(x, 0, STORE, 0, 9, FENCE, 0, 0, STORE, 1, 9);
        steps(x, 1, STORE, 0, 8, STORE, 1, 8);
        outcomesAre(x, STRICT, 0);
        outcomesAre(x, BUFFERED, 0);
    }

    @Sentence("Loads and additions give results.")
    static void programsOfSixStoresHaveOneOutcome() {
        HearthCache x = new HearthCache();
        for (int i = 0; i < 6; i++) {
            x.step(i % 3, STORE, i % 2, 1 + i);
        }
        outcomesAre(x, STRICT, 0);
        outcomesAre(x, BUFFERED, 0);
    }

    @Sentence("Loads and additions give results.")
    static void programsOfFencesAloneHaveOneOutcome() {
        HearthCache x = new HearthCache();
        for (int i = 0; i < 6; i++) {
            x.step(i % 3, FENCE, -7, 77);
        }
        outcomesAre(x, STRICT, 0);
        outcomesAre(x, BUFFERED, 0);
    }

    @Sentence("to add 1 to a place at once, which gives what was there")
    static void programsAddOneAndGiveWhatWasThere() {
        HearthCache x = new HearthCache();
        steps(x, 0, ADD, 2, 0, ADD, 2, 0, ADD, 2, 0, LOAD, 2, 0);
        outcomesAre(x, STRICT, 123);
        outcomesAre(x, BUFFERED, 123);
    }

    @Sentence("to add 1 to a place at once, which gives what was there")
    static void programsAddAtOnce() {
        HearthCache x = new HearthCache();
        steps(x, 0, ADD, 0, 0);
        steps(x, 1, ADD, 0, 0);
        outcomesAre(x, STRICT, 1, 10);
        outcomesAre(x, BUFFERED, 1, 10);
    }

    // ---- how outcomes are told

    @Sentence("one decimal digit for each result, by threads, then steps, the first one being the highest")
    static void programsTellTheFirstResultHighest() {
        HearthCache x = new HearthCache();
        steps(x, 2, LOAD, 0, 0);
        steps(x, 0, STORE, 1, 7, LOAD, 1, 0, ADD, 1, 0);
        steps(x, 1, STORE, 2, 3, LOAD, 2, 0);
        outcomesAre(x, STRICT, 7730);
        outcomesAre(x, BUFFERED, 7730);
    }

    @Sentence("one decimal digit for each result, by threads, then steps, the first one being the highest")
    static void programsTellSixResults() {
        HearthCache x = new HearthCache();
        for (int i = 0; i < 6; i++) {
            x.step(i % 3, ADD, i % 3, 0);
        }
        outcomesAre(x, STRICT, 10101);
        outcomesAre(x, BUFFERED, 10101);
    }

    @Sentence("one decimal digit for each result, by threads, then steps, the first one being the highest")
    static void programsTellFourResultsOfEachThread() {
        for (int thread = 0; thread < 3; thread++) {
            HearthCache x = new HearthCache();
            for (int i = 0; i < 4; i++) {
                x.step(thread, ADD, 0, 0);
            }
            outcomesAre(x, STRICT, 123);
            outcomesAre(x, BUFFERED, 123);
        }
    }

    @Sentence("one decimal digit for each result, by threads, then steps, the first one being the highest")
    static void programsTellFourNinesOfTheFirstThread() {
        HearthCache x = new HearthCache();
        steps(x, 0, LOAD, 0, 0, LOAD, 0, 0, LOAD, 0, 0, LOAD, 0, 0);
        steps(x, 1, STORE, 0, 9);
        steps(x, 2, LOAD, 1, 0);
        outcomesAre(x, STRICT, 0, 90, 990, 9990, 99990);
        outcomesAre(x, BUFFERED, 0, 90, 990, 9990, 99990);
    }

    @Sentence("results above 9 are told as 9")
    static void programsTell9As9() {
        HearthCache x = new HearthCache();
        steps(x, 0, STORE, 0, 8, ADD, 0, 0, LOAD, 0, 0);
        outcomesAre(x, STRICT, 89);
        outcomesAre(x, BUFFERED, 89);
    }

    @Sentence("results above 9 are told as 9")
    static void programsTell10As9() {
        HearthCache x = new HearthCache();
        steps(x, 0, STORE, 0, 9, ADD, 0, 0, LOAD, 0, 0);
        outcomesAre(x, STRICT, 99);
        outcomesAre(x, BUFFERED, 99);
    }

    /** The greatest result there can be: 9 is stored, four times 1 is added, and 13 is loaded. */
    @Sentence("results above 9 are told as 9")
    static void programsTell13As9() {
        HearthCache x = new HearthCache();
        steps(x, 0, STORE, 0, 9, ADD, 0, 0, ADD, 0, 0, ADD, 0, 0);
        steps(x, 1, ADD, 0, 0, LOAD, 0, 0);
        outcomesAre(x, STRICT, 99901, 99909, 99999);
        outcomesAre(x, BUFFERED, 99901, 99909, 99999);
    }

    @Sentence("results above 9 are told as 9")
    static void programsTellPlacesApartThoughOneHolds13() {
        HearthCache x = new HearthCache();
        steps(x, 0, STORE, 0, 9, ADD, 0, 0, ADD, 0, 0, ADD, 0, 0);
        steps(x, 1, ADD, 0, 0, LOAD, 1, 0);
        for (int i = 0; i < x.outcomes(STRICT); i++) {
            is("place 1 stays 0", x.outcome(STRICT, i) % 10, 0);
        }
        is("alike", x.areAlike(), true);
    }

    /** Results of 9, 10 and 11 are told as 9: three ways to come out, but one outcome. */
    @Sentence("results above 9 are told as 9")
    static void programsCountOutcomesThatAreToldAlikeOnce() {
        HearthCache x = new HearthCache();
        steps(x, 0, STORE, 0, 9, ADD, 0, 0, ADD, 0, 0);
        steps(x, 1, LOAD, 0, 0, LOAD, 0, 0);
        outcomesAre(x, STRICT, 9900, 9909, 9999);
        outcomesAre(x, BUFFERED, 9900, 9909, 9999);
    }

    // ---- the models

    @Sentence("By the model STRICT all steps are done one at a time, those of a thread in their order.")
    static void programsByStrictLetNoLoadOvertake() {
        HearthCache x = new HearthCache();
        steps(x, 0, STORE, 0, 1, LOAD, 1, 0);
        steps(x, 1, STORE, 1, 1, LOAD, 0, 0);
        outcomesAre(x, STRICT, 1, 10, 11);
    }

    @Sentence("By BUFFERED a store goes into a buffer of its thread first, from which stores reach the places in their order, at any time")
    static void programsByBufferedLetALoadOvertakeAStore() {
        HearthCache x = new HearthCache();
        steps(x, 0, STORE, 0, 1, LOAD, 1, 0);
        steps(x, 1, STORE, 1, 1, LOAD, 0, 0);
        outcomesAre(x, BUFFERED, 0, 1, 10, 11);
    }

    @Sentence("By BUFFERED a store goes into a buffer of its thread first, from which stores reach the places in their order, at any time")
    static void programsByBufferedLetALoadOvertakeThreeStores() {
        HearthCache x = new HearthCache();
        steps(x, 0, STORE, 0, 1, STORE, 2, 1, STORE, 2, 2, LOAD, 1, 0);
        steps(x, 1, STORE, 1, 1, LOAD, 0, 0);
        outcomesAre(x, STRICT, 1, 10, 11);
        outcomesAre(x, BUFFERED, 0, 1, 10, 11);
    }

    @Sentence("from which stores reach the places in their order, at any time")
    static void programsByBufferedKeepStoresInTheirOrder() {
        HearthCache x = new HearthCache();
        steps(x, 0, STORE, 0, 1, STORE, 1, 1);
        steps(x, 1, LOAD, 1, 0, LOAD, 0, 0);
        outcomesAre(x, STRICT, 0, 1, 11);
        outcomesAre(x, BUFFERED, 0, 1, 11);
    }

    @Sentence("from which stores reach the places in their order, at any time")
    static void programsByBufferedKeepFourStoresInABuffer() {
        HearthCache x = new HearthCache();
        steps(x, 0, STORE, 0, 1, STORE, 0, 2, STORE, 0, 3, STORE, 0, 4);
        steps(x, 1, LOAD, 0, 0, LOAD, 0, 0);
        int[] due = {0, 1, 2, 3, 4, 11, 12, 13, 14, 22, 23, 24, 33, 34, 44};
        outcomesAre(x, STRICT, due);
        outcomesAre(x, BUFFERED, due);
    }

    @Sentence("a load gives the latest store of its place in the buffer of its thread, otherwise what is in the place")
    static void programsByBufferedLoadTheLatestStoreOfTheThread() {
        HearthCache x = new HearthCache();
        steps(x, 0, STORE, 0, 4, STORE, 0, 5, STORE, 1, 6, LOAD, 0, 0);
        outcomesAre(x, STRICT, 5);
        outcomesAre(x, BUFFERED, 5);
    }

    @Sentence("a load gives the latest store of its place in the buffer of its thread, otherwise what is in the place")
    static void programsByBufferedDoNotLoadTheStoresOfAnotherThread() {
        HearthCache x = new HearthCache();
        steps(x, 0, STORE, 0, 4, LOAD, 1, 0);
        steps(x, 1, STORE, 1, 5, LOAD, 0, 0);
        steps(x, 2, STORE, 2, 6);
        outcomesAre(x, STRICT, 4, 50, 54);
        outcomesAre(x, BUFFERED, 0, 4, 50, 54);
    }

    /** A thread sees its own store while others do not: both loads of the other's place may give 0. */
    @Sentence("a load gives the latest store of its place in the buffer of its thread, otherwise what is in the place")
    static void programsByBufferedSeeTheirOwnStoreBeforeOthersDo() {
        HearthCache x = new HearthCache();
        steps(x, 0, STORE, 0, 1, LOAD, 0, 0, LOAD, 1, 0);
        steps(x, 1, STORE, 1, 1, LOAD, 1, 0, LOAD, 0, 0);
        outcomesAre(x, STRICT, 1011, 1110, 1111);
        outcomesAre(x, BUFFERED, 1010, 1011, 1110, 1111);
    }

    @Sentence("otherwise what is in the place")
    static void programsByBufferedLoadWhatAnotherThreadHasStoredSince() {
        HearthCache x = new HearthCache();
        steps(x, 0, STORE, 0, 1, LOAD, 0, 0);
        steps(x, 1, STORE, 0, 2);
        outcomesAre(x, STRICT, 1, 2);
        outcomesAre(x, BUFFERED, 1, 2);
    }

    @Sentence("a fence and an addition wait until the buffer is empty")
    static void programsByBufferedFencesWait() {
        HearthCache x = new HearthCache();
        steps(x, 0, STORE, 0, 1, FENCE, 0, 0, LOAD, 1, 0);
        steps(x, 1, STORE, 1, 1, FENCE, 0, 0, LOAD, 0, 0);
        outcomesAre(x, BUFFERED, 1, 10, 11);
        is("alike", x.areAlike(), true);
    }

    /** Each thread by turns is the only one that has a buffer without a fence behind its store. */
    @Sentence("a fence and an addition wait until the buffer is empty")
    static void programsByBufferedOneFenceIsNotEnough() {
        for (int fenced = 0; fenced < 3; fenced++) {
            for (int other = 0; other < 3; other++) {
                if (fenced != other) {
                    HearthCache x = new HearthCache();
                    steps(x, fenced, STORE, 0, 1, FENCE, 0, 0, LOAD, 1, 0);
                    steps(x, other, STORE, 1, 1, LOAD, 0, 0);
                    outcomesAre(x, STRICT, 1, 10, 11);
                    outcomesAre(x, BUFFERED, 0, 1, 10, 11);
                }
            }
        }
    }

    @Sentence("a fence and an addition wait until the buffer is empty")
    static void programsByBufferedAFenceAheadOfTheStoreDoesNotHelp() {
        HearthCache x = new HearthCache();
        steps(x, 0, FENCE, 0, 0, STORE, 0, 1, LOAD, 1, 0);
        steps(x, 1, STORE, 1, 1, LOAD, 0, 0, FENCE, 0, 0);
        outcomesAre(x, BUFFERED, 0, 1, 10, 11);
    }

    @Sentence("a fence and an addition wait until the buffer is empty")
    static void programsByBufferedAdditionsWait() {
        HearthCache x = new HearthCache();
        steps(x, 0, STORE, 0, 1, ADD, 2, 0, LOAD, 1, 0);
        steps(x, 1, STORE, 1, 1, ADD, 2, 0, LOAD, 0, 0);
        is("as by STRICT", x.outcomes(BUFFERED), x.outcomes(STRICT));
        is("alike", x.areAlike(), true);
        for (int i = 0; i < x.outcomes(BUFFERED); i++) {
            int outcome = x.outcome(BUFFERED, i);
            is("not both loads give 0: " + outcome, outcome / 10 % 100 == 0 && outcome % 10 == 0, false);
            is("one of them gives 1: " + outcome, outcome / 100 % 10 + outcome % 10 > 0, true);
        }
    }

    /** An addition is visible at once: behind it, no load of its thread overtakes it. */
    @Sentence("to add 1 to a place at once, which gives what was there")
    static void programsByBufferedAdditionsAreNotBuffered() {
        HearthCache x = new HearthCache();
        steps(x, 0, ADD, 0, 0, LOAD, 1, 0);
        steps(x, 1, ADD, 1, 0, LOAD, 0, 0);
        outcomesAre(x, STRICT, 1, 100, 101);
        outcomesAre(x, BUFFERED, 1, 100, 101);
    }

    @Sentence("The program is over when all steps are done, and all buffers are empty.")
    static void programsByBufferedAreNotOverWhileAStoreIsInABuffer() {
        HearthCache x = new HearthCache();
        steps(x, 0, LOAD, 0, 0, LOAD, 0, 0);
        steps(x, 1, STORE, 0, 1, STORE, 0, 2);
        outcomesAre(x, STRICT, 0, 1, 2, 11, 12, 22);
        outcomesAre(x, BUFFERED, 0, 1, 2, 11, 12, 22);
    }

    @Sentence("An outcome is told as a number with one decimal digit for each result")
    static void programsOfSixAdditionsHave90Outcomes() {
        HearthCache x = new HearthCache();
        for (int i = 0; i < 6; i++) {
            x.step(i % 3, ADD, 0, 0);
        }
        for (int model = 0; model < 2; model++) {
            is("outcomes", x.outcomes(model), 90);
            is("anew", x.outcomesAnew(model), 90);
            is("the least one", x.outcome(model, 0), 12345);
            is("the greatest one", x.outcome(model, 89), 452301);
        }
    }
}
