import java.util.function.Consumer;
import java.util.function.ToIntBiFunction;
import java.util.function.ToIntFunction;

/** Calls that are refused: what they answer, and that all is then as if they had not been made. */
final class Refused {
    private Refused() {
    }

    static void by(String label, Consumer<NoonVows> story, ToIntFunction<NoonVows> call, int due) {
        NoonVows x = new NoonVows();
        story.accept(x);
        Due.is(label, call.applyAsInt(x), due);
        Whole.alike(label + ": refused, it changes nothing", story.andThen(y -> call.applyAsInt(y)), story);
    }

    /** The least and the greatest number are taken; the first one beyond on either side, and the farthest, are due. */
    static void beyond(String label, Consumer<NoonVows> story, int least, int most, ToIntBiFunction<NoonVows, Integer> call, int due) {
        for (int v : new int[] {least, most}) {
            NoonVows x = new NoonVows();
            story.accept(x);
            Due.holds(label + ": " + v + " is taken", call.applyAsInt(x, v) != due);
        }
        for (int v : new int[] {least - 1, most + 1, Integer.MIN_VALUE, Integer.MAX_VALUE}) {
            by(label + ": " + v, story, x -> call.applyAsInt(x, v), due);
        }
    }

    static void beyond(String label, Consumer<NoonVows> story, int least, int most, ToIntBiFunction<NoonVows, Integer> call) {
        beyond(label, story, least, most, call, NoonVows.BAD);
    }
}
