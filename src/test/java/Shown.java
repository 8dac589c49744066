import java.util.ArrayList;
import java.util.List;
import java.util.function.IntSupplier;

/** Answers as numbers: all that an object shows, and a stand-in for each exception. */
final class Shown {
    static final long ARGUMENT = 1L << 40;
    static final long STATE = 2L << 40;
    static final long INDEX = 3L << 40;

    private Shown() {
    }

    /** The answer, or a number beyond the ints that stands for the exception thrown. */
    static long answer(IntSupplier body) {
        try {
            return body.getAsInt();
        } catch (IllegalArgumentException e) {
            return ARGUMENT;
        } catch (IllegalStateException e) {
            return STATE;
        } catch (IndexOutOfBoundsException e) {
            return INDEX;
        }
    }

    /** As above, of a call that answers nothing: 0. */
    static long answer(Runnable body) {
        return answer(() -> {
            body.run();
            return 0;
        });
    }

    /** Every question that is allowed: 82 calls, and 4 more for each datagram that came. */
    static List<Long> all(SharedFibre x) {
        List<Long> answers = new ArrayList<>();
        for (int unit = 0; unit < 5; unit++) {
            for (int what = 0; what < 7; what++) {
                answers.add((long) x.unit(unit, what));
            }
            for (int what = 0; what < 8; what++) {
                answers.add((long) x.container(unit, what / 4, what % 4));
            }
        }
        for (int which = 0; which < 7; which++) {
            answers.add((long) x.count(which));
        }
        for (int i = 0; i < 4 * x.count(0); i++) {
            answers.add((long) x.came(i / 4, i % 4));
        }
        return answers;
    }
}
