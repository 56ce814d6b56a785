import java.util.ArrayList;
import java.util.HashSet;
import java.util.List;
import java.util.Set;
import java.util.TreeSet;

/**
 * The programs of the document once more: every single move of every thread is tried
 * (a store goes into the buffer, a store reaches its place, a step is done), nothing is left out.
 */
final class ProgramModel {
    record Step(int what, int place, int value) {
    }

    private static final class State {
        int[] next = new int[3];
        int[] places = new int[3];
        List<List<Step>> buffers = List.of(new ArrayList<>(), new ArrayList<>(), new ArrayList<>());
        int[][] results = new int[3][4];

        State copy() {
            State copy = new State();
            copy.next = next.clone();
            copy.places = places.clone();
            for (int thread = 0; thread < 3; thread++) {
                copy.buffers.get(thread).addAll(buffers.get(thread));
                copy.results[thread] = results[thread].clone();
            }
            return copy;
        }

        String key() {
            return java.util.Arrays.toString(next) + java.util.Arrays.toString(places) + buffers
                    + java.util.Arrays.deepToString(results);
        }
    }

    private final List<List<Step>> threads;
    private final boolean buffered;
    private final Set<String> seen = new HashSet<>();
    private final TreeSet<Integer> outcomes = new TreeSet<>();

    private ProgramModel(List<List<Step>> threads, boolean buffered) {
        this.threads = threads;
        this.buffered = buffered;
    }

    static List<Integer> outcomes(List<List<Step>> threads, boolean buffered) {
        ProgramModel model = new ProgramModel(threads, buffered);
        model.visit(new State());
        return new ArrayList<>(model.outcomes);
    }

    private void visit(State state) {
        if (!seen.add(state.key())) {
            return;
        }
        boolean over = true;
        for (int thread = 0; thread < 3; thread++) {
            if (!state.buffers.get(thread).isEmpty()) {
                over = false;
                State after = state.copy();
                Step store = after.buffers.get(thread).remove(0);
                after.places[store.place] = store.value;
                visit(after);
            }
            if (state.next[thread] < threads.get(thread).size()) {
                over = false;
                State after = state.copy();
                if (go(after, thread)) {
                    visit(after);
                }
            }
        }
        if (over) {
            outcomes.add(told(state));
        }
    }

    private boolean go(State state, int thread) {
        int at = state.next[thread];
        Step step = threads.get(thread).get(at);
        List<Step> buffer = state.buffers.get(thread);
        state.next[thread]++;
        switch (step.what) {
            case HearthCache.STORE -> {
                if (buffered) {
                    buffer.add(step);
                } else {
                    state.places[step.place] = step.value;
                }
                return true;
            }
            case HearthCache.LOAD -> {
                int value = state.places[step.place];
                for (Step store : buffer) {
                    if (store.place == step.place) {
                        value = store.value;
                    }
                }
                state.results[thread][at] = value;
                return true;
            }
            case HearthCache.ADD -> {
                state.results[thread][at] = state.places[step.place];
                state.places[step.place]++;
                return buffer.isEmpty();
            }
            default -> {
                return buffer.isEmpty();
            }
        }
    }

    private int told(State state) {
        StringBuilder digits = new StringBuilder("0");
        for (int thread = 0; thread < 3; thread++) {
            for (int at = 0; at < threads.get(thread).size(); at++) {
                int what = threads.get(thread).get(at).what;
                if (what == HearthCache.LOAD || what == HearthCache.ADD) {
                    digits.append(Math.min(9, state.results[thread][at]));
                }
            }
        }
        return Integer.parseInt(digits.toString());
    }
}
