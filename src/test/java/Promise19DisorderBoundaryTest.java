import java.lang.reflect.Array;
import java.lang.reflect.Field;

/**
 * isCoherent() answers false for no run of calls that is known: so these tests put lines into the caches by
 * force, past the calls. They know the class's private fields; where it has others, they say so and are left out.
 */
public final class Promise19DisorderBoundaryTest extends Cases {
    private static final String ORDER = "no line is EXCLUSIVE or MODIFIED in one, and SHARED, EXCLUSIVE or MODIFIED"
            + " in another one; and all that are SHARED or EXCLUSIVE have the same value, for each line";

    public static void main(String[] args) {
        try {
            force(new HearthCache(), 0, 0, SHARED, 0);
        } catch (ReflectiveOperationException e) {
            System.out.println("left out, as the class holds its state in another way: " + e);
            return;
        }
        runAll(Promise19DisorderBoundaryTest.class);
    }

    private static void force(HearthCache x, int core, int line, int state, int value)
            throws ReflectiveOperationException {
        Object place = Array.get(inside(inside(x, "cores", core), "places"), 0);
        set(place, "line", line);
        set(place, "state", state);
        set(place, "value", value);
    }

    private static Object inside(Object of, String name) throws ReflectiveOperationException {
        Field field = of.getClass().getDeclaredField(name);
        field.setAccessible(true);
        return field.get(of);
    }

    private static Object inside(Object of, String name, int at) throws ReflectiveOperationException {
        return Array.get(inside(of, name), at);
    }

    private static void set(Object of, String name, int value) throws ReflectiveOperationException {
        Field field = of.getClass().getDeclaredField(name);
        field.setAccessible(true);
        field.setInt(of, value);
    }

    /** Two cores hold a line, the first with the value 5; at the least and the greatest line, for all pairs. */
    private static void together(int one, int other, int value, boolean due) throws ReflectiveOperationException {
        for (int line : new int[] {0, 7, 15}) {
            for (int first = 0; first < 4; first++) {
                for (int second = 0; second < 4; second++) {
                    if (first != second) {
                        HearthCache x = new HearthCache();
                        force(x, first, line, one, 5);
                        force(x, second, line, other, value);
                        is("line " + line + ", cores " + first + " and " + second, x.isCoherent(), due);
                    }
                }
            }
        }
    }

    @Sentence(ORDER)
    static void promise19NotCoherentExclusiveAndShared() throws ReflectiveOperationException {
        together(EXCLUSIVE, SHARED, 5, false);
    }

    @Sentence(ORDER)
    static void promise19NotCoherentExclusiveAndExclusive() throws ReflectiveOperationException {
        together(EXCLUSIVE, EXCLUSIVE, 5, false);
    }

    @Sentence(ORDER)
    static void promise19NotCoherentExclusiveAndModified() throws ReflectiveOperationException {
        together(EXCLUSIVE, MODIFIED, 5, false);
    }

    @Sentence(ORDER)
    static void promise19NotCoherentModifiedAndShared() throws ReflectiveOperationException {
        together(MODIFIED, SHARED, 5, false);
    }

    @Sentence(ORDER)
    static void promise19NotCoherentModifiedAndModified() throws ReflectiveOperationException {
        together(MODIFIED, MODIFIED, 5, false);
    }

    @Sentence(ORDER)
    static void promise19NotCoherentSharedWithUnlikeValues() throws ReflectiveOperationException {
        together(SHARED, SHARED, 4, false);
        together(SHARED, SHARED, 0, false);
        together(SHARED, SHARED, 999, false);
    }

    @Sentence(ORDER)
    static void promise19CoherentSharedWithTheSameValue() throws ReflectiveOperationException {
        together(SHARED, SHARED, 5, true);
    }

    @Sentence(ORDER)
    static void promise19CoherentWithOneThatWaits() throws ReflectiveOperationException {
        together(EXCLUSIVE, WAITS_READ, 4, true);
        together(MODIFIED, WAITS_WRITE, 4, true);
        together(SHARED, WAITS_WRITE, 4, true);
        together(WAITS_WRITE, WAITS_WRITE, 4, true);
    }

    @Sentence(ORDER)
    static void promise19CoherentModifiedAlone() throws ReflectiveOperationException {
        together(MODIFIED, INVALID, 4, true);
        together(EXCLUSIVE, INVALID, 4, true);
    }

    @Sentence("for each line")
    static void promise19CoherentUnlikeValuesOfUnlikeLines() throws ReflectiveOperationException {
        HearthCache x = new HearthCache();
        force(x, 0, 3, SHARED, 5);
        force(x, 1, 4, SHARED, 6);
        force(x, 2, 5, EXCLUSIVE, 7);
        force(x, 3, 6, MODIFIED, 8);
        is("four lines", x.isCoherent(), true);
    }
}
