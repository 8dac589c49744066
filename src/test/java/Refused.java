import java.util.ArrayList;
import java.util.List;
import java.util.function.Consumer;

/** Calls that are to be refused: with the exception due, and so that nothing shows that they were made. */
final class Refused {
    private final Check check;
    private final Scene[] scenes;

    /** Makes an object, each time the same. */
    interface Scene {
        SharedFibre make();
    }

    Refused(Check check, Scene... scenes) {
        this.check = check;
        this.scenes = scenes;
    }

    void argument(String call, Consumer<SharedFibre> body) {
        refused(call, body, Shown.ARGUMENT);
    }

    void state(String call, Consumer<SharedFibre> body) {
        refused(call, body, Shown.STATE);
    }

    void index(String call, Consumer<SharedFibre> body) {
        refused(call, body, Shown.INDEX);
    }

    private void refused(String call, Consumer<SharedFibre> body, long due) {
        for (Scene scene : scenes) {
            changesNothing(call, scene, body, due, Refused::byFrames);
            changesNothing(call, scene, body, due, Refused::byQuietFrames);
            changesNothing(call, scene, body, due, Refused::byCalls);
            changesNothing(call, scene, body, due, Refused::byFeeders);
            changesNothing(call, scene, body, due, Refused::byDarkRow);
        }
    }

    private interface Aftermath {
        List<Long> of(SharedFibre x);
    }

    /** Two objects made alike; the call is made on one of them, and both have to go on alike. */
    private void changesNothing(String call, Scene scene, Consumer<SharedFibre> body, long due,
            Aftermath aftermath) {
        SharedFibre x = scene.make();
        check.is(call, Shown.answer(() -> body.accept(x)), due);
        check.same("what is shown after " + call, aftermath.of(x), aftermath.of(scene.make()));
    }

    private static List<Long> byFrames(SharedFibre x) {
        List<Long> answers = Shown.all(x);
        answers.add((long) x.frame());
        answers.add((long) x.frame());
        answers.addAll(Shown.all(x));
        return answers;
    }

    /** Shows what waits for units that are unknown as yet. */
    private static List<Long> byQuietFrames(SharedFibre x) {
        List<Long> answers = new ArrayList<>();
        for (int i = 0; i < 3; i++) {
            x.discover();
            answers.add((long) x.frame());
        }
        answers.add((long) x.frame());
        answers.addAll(Shown.all(x));
        return answers;
    }

    /** Shows numbers, queues, ways, waiting keys, serials and the sum of the contracts. */
    private static List<Long> byCalls(SharedFibre x) {
        List<Long> answers = new ArrayList<>();
        for (int unit = 0; unit < 5; unit++) {
            sendAndDrift(x, unit, answers);
        }
        answers.add((long) x.frame());
        for (int i = 0; i < 5; i++) {
            int unit = i;
            answers.add(Shown.answer(() -> x.key(unit, 60 + unit)));
        }
        for (int i = 0; i < 7; i++) {
            int serial = i;
            answers.add(Shown.answer(() -> x.plug(serial, 350)));
        }
        answers.add(Shown.answer(() -> x.contract(3, 1, Scenes.CONTRACTS_LEFT + 1, 0, 60, 5)));
        answers.add(Shown.answer(() -> x.contract(3, 1, Scenes.CONTRACTS_LEFT, 0, 60, 5)));
        answers.add((long) x.frame());
        answers.addAll(Shown.all(x));
        return answers;
    }

    /** The drifts tell each way that is near a bound from the next one. */
    private static void sendAndDrift(SharedFibre x, int unit, List<Long> answers) {
        answers.add(Shown.answer(() -> x.send(unit, 0, 9)));
        answers.add(Shown.answer(() -> x.send(unit, 1, 7)));
        for (int slots : new int[] {-1, 2, -1, -1, -1, 2, 2, 1, -2}) {
            answers.add(Shown.answer(() -> x.drift(unit, slots)));
        }
    }

    private static List<Long> byFeeders(SharedFibre x) {
        List<Long> answers = new ArrayList<>();
        for (int round = 0; round < 2; round++) {
            x.feeder(round, true);
            for (int i = 0; i < 4; i++) {
                answers.add((long) x.frame());
                answers.add((long) x.count(3));
            }
            x.feeder(round, false);
        }
        answers.addAll(Shown.all(x));
        return answers;
    }

    /** Shows how many dark frames there were in a row, if the active feeder is 0. */
    private static List<Long> byDarkRow(SharedFibre x) {
        List<Long> answers = new ArrayList<>();
        x.feeder(0, true);
        x.feeder(1, false);
        for (int i = 0; i < 4; i++) {
            answers.add((long) x.frame());
            answers.add((long) x.count(3));
        }
        return answers;
    }
}
