import java.util.List;
import java.util.function.Consumer;
import java.util.function.ToIntFunction;
import java.util.stream.IntStream;

/** What the boundary tests check with. */
abstract class Checks {
    static final int NO_SUCH = -1, BAD_VALUE = -2, BAD_TEXT = -3, TOO_MANY = -4, NOT_POSSIBLE = -5, NONE = -6;
    static final int MOST_UNDONE = 6;
    static final List<Consumer<Queue>> ALL_EVENINGS = List.of(Evenings::nothing, Evenings::busy, Evenings::full);

    private static final StackWalker STACK = StackWalker.getInstance();
    private static int checked = 0;
    private static int wrong = 0;

    static int checked() {
        return checked;
    }

    static int wrong() {
        return wrong;
    }

    static void fail(String what) {
        wrong++;
        System.out.println("BoundaryTest: " + what);
    }

    static void due(long got, long want) {
        checked++;
        if (got != want) {
            fail(place() + ": answered " + got + ", due is " + want);
        }
    }

    /** The line of the test that called, not of a helper here. */
    private static String place() {
        return STACK.walk(frames -> frames
                .filter(f -> !f.getClassName().equals("Checks") && !f.getMethodName().startsWith("lambda"))
                .findFirst().map(f -> f.getMethodName() + " (" + f.getFileName() + ":" + f.getLineNumber() + ")")
                .orElse("nowhere"));
    }

    static Queue made(Consumer<Queue> evening) {
        Queue q = new Queue();
        evening.accept(q);
        return q;
    }

    /** The call is refused with this error on such an evening, and nothing is changed by it. */
    static void refused(Consumer<Queue> evening, ToIntFunction<Queue> call, int error) {
        if (error >= 0 || error == NONE) {
            fail(place() + ": " + error + " is no error");
        }
        tells(evening, call, error);
    }

    /** The call answers so on such an evening, and nothing is changed by it. */
    static void tells(Consumer<Queue> evening, ToIntFunction<Queue> call, int answer) {
        for (Looks look : Looks.ALL) {
            Queue q = made(evening);
            due(call.applyAsInt(q), answer);
            same(look, q, made(evening));
        }
    }

    /** The call succeeds on such an evening, is recorded, and undo brings back the state before it. */
    static void isChange(Consumer<Queue> evening, ToIntFunction<Queue> call) {
        int after = Math.min(made(evening).count(10) + 1, MOST_UNDONE);
        for (Looks look : Looks.OF_THE_STATE) {
            Queue q = made(evening);
            if (call.applyAsInt(q) < 0) {
                fail(place() + ": the call is refused");
            }
            due(q.count(10), after);
            due(q.undo(), after - 1);
            same(look, q, made(evening));
        }
    }

    /** The call records nothing: what is undone next is what was ahead of it. */
    static void isNoChange(Consumer<Queue> evening, ToIntFunction<Queue> call) {
        Queue q = made(evening);
        call.applyAsInt(q);
        same(Looks.HISTORY, q, made(evening));
    }

    static void same(Looks look, Queue got, Queue want) {
        checked++;
        List<String> seen = look.at(got);
        List<String> wanted = look.at(want);
        if (!seen.equals(wanted)) {
            fail(place() + ": " + look + " differs" + firstDifference(seen, wanted));
        }
    }

    private static String firstDifference(List<String> seen, List<String> wanted) {
        for (int i = 0; i < Math.min(seen.size(), wanted.size()); i++) {
            if (!seen.get(i).equals(wanted.get(i))) {
                return ": " + seen.get(i) + ", due is " + wanted.get(i);
            }
        }
        return ": " + seen.size() + " answers, due are " + wanted.size();
    }

    /** Just below and above a range, far away, and where 5, 8 or 16 bits have wrapped around. */
    static int[] outside(int least, int greatest) {
        return IntStream.of(least - 1, greatest + 1, least + 32, least - 32, greatest + 32, least + 256, least + 65536,
                        NONE, Integer.MIN_VALUE, Integer.MIN_VALUE + least, Integer.MAX_VALUE)
                .filter(i -> i < least || i > greatest).distinct().toArray();
    }

    // ---- what is asked for often

    static void wishIs(Queue q, int wish, int first, int other, int song) {
        due(q.inQueue(wish, 0), first);
        due(q.inQueue(wish, 1), other);
        due(q.inQueue(wish, 2), song);
    }

    static void turnWas(Queue q, int back, int first, int other, int song, int begin) {
        due(q.past(back, 0), first);
        due(q.past(back, 1), other);
        due(q.past(back, 2), song);
        due(q.past(back, 3), begin);
    }

    /** Sings turn by turn, and compares the first singer of each. */
    static void order(Queue q, int... singers) {
        for (int singer : singers) {
            due(q.sing(1), 1);
            due(q.past(0, 0), singer);
        }
    }
}
