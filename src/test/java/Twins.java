import java.util.function.ToIntFunction;

/**
 * Two towns that are called alike, but for questions and calls that are refused, which only one of
 * them gets: no answer may tell the two apart afterwards.
 */
final class Twins {
    private static final int MOST_STATES = 4;

    private final Check c;
    private final KilnPermits town = new KilnPermits();
    private final KilnPermits twin = new KilnPermits();

    Twins(Check c) {
        this.c = c;
    }

    /** A call that prepares. */
    void first(ToIntFunction<KilnPermits> call) {
        int answer = call.applyAsInt(town);
        c.holds("a call that prepares is not refused, answered " + answer, answer >= 0);
        c.due(answer, call.applyAsInt(twin));
    }

    /** An act that is done: it is recorded once, so that one undo() takes all of it back. */
    void act(int want, ToIntFunction<KilnPermits> call) {
        String before = Asking.all(town);
        int recorded = Math.min(MOST_STATES, town.count(19) + 1);
        done(want, call);
        c.due(recorded, town.count(19));
        c.due(recorded - 1, town.undo());
        c.holds("one undo() takes all of the act back", Asking.all(town).equals(before));
        c.due(want, call.applyAsInt(town));
        compare("the act is the same when it is done again");
    }

    /** A call that is done and is no act. */
    void done(int want, ToIntFunction<KilnPermits> call) {
        c.due(want, call.applyAsInt(town));
        c.due(want, call.applyAsInt(twin));
    }

    void refused(int want, ToIntFunction<KilnPermits> call) {
        c.holds("an error or NONE is due", want < 0);
        tells(want, call);
    }

    /** A call that is refused with one error or another. */
    void refused(ToIntFunction<KilnPermits> call) {
        c.holds("an error or NONE is due", call.applyAsInt(town) < 0);
        compare("nothing changes");
    }

    /** A question, or a call of which nothing may change. */
    void tells(int want, ToIntFunction<KilnPermits> call) {
        c.due(want, call.applyAsInt(town));
        compare("nothing changes");
    }

    void type(String text) {
        Asking.typeAll(town, text);
        Asking.typeAll(twin, text);
        c.due(text.length(), town.count(20));
    }

    /** Looks also at what only later calls tell: the history, the snapshot and the text. */
    void end() {
        compare("the same at the end");
        for (int i = 0; i <= MOST_STATES; i++) {
            c.due(twin.undo(), town.undo());
            compare("the same states in the history");
        }
        c.due(twin.restore(), town.restore());
        compare("the same snapshot");
        c.due(twin.orderAll(), town.orderAll());
        compare("the same text");
    }

    private void compare(String what) {
        c.holds(what, Asking.all(town).equals(Asking.all(twin))
            && town.count(19) == twin.count(19) && town.count(20) == twin.count(20));
    }
}
