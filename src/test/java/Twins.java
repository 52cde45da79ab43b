import java.util.function.ToIntFunction;

/** Holds a call against its answer, and its object against a twin that was not called. */
final class Twins {
    private final Due due;

    Twins(Due due) {
        this.due = due;
    }

    /** A call answers so, in a scene, and changes nothing: now, by day, in later TICKS, kept. */
    void idle(String call, Scene scene, ToIntFunction<NightStalls> ask, int answer) {
        for (Tell part : Tell.values()) {
            NightStalls asked = scene.make();
            due.is(call + " in " + scene, ask.applyAsInt(asked), answer);
            due.same(call + " in " + scene + " changes nothing", part.of(asked),
                    part.of(scene.make()));
        }
    }

    /** A number that is refused: the one below the least, the one above the most, far off. */
    void outside(String call, Scene scene, int least, int most, Asker ask) {
        int[] wrong = {least - 1, most + 1, Integer.MIN_VALUE, Integer.MAX_VALUE};
        for (int v : wrong) {
            idle(call + " with " + v, scene, x -> ask.ask(x, v), NightStalls.NUMBER);
        }
    }

    /** A call with one number left open. */
    interface Asker {
        int ask(NightStalls x, int v);
    }
}
