import java.util.HashMap;
import java.util.Map;

/** A sentence of the document, and the calls that show whether it holds at its boundaries. */
final class Sentence {
    interface Indexed {
        Object on(DominoChains game, int index);
    }

    static final Class<IndexOutOfBoundsException> INDEX = IndexOutOfBoundsException.class;
    static final Class<IllegalStateException> STATE = IllegalStateException.class;
    static final Class<IllegalArgumentException> ARGUMENT = IllegalArgumentException.class;

    // Has edits to undo, a saved state and a formatted text, so that a change of one can be seen.
    private static final Start BUSY = Start.text("round 12 23 34 45, 66 61; round 01 12 23; left 0;")
            .then(game -> game.burn(1, true), game -> game.save(), game -> game.pass(), game -> game.formatChain(0));
    private static final String BUSY_MATCH = View.match(BUSY);
    private static final Map<Start, String> SEEN = new HashMap<>();

    private final String label;

    private Sentence(String section, String words) {
        Doc.quote(section, words);
        label = section + ", \"" + words + "\", ";
    }

    static Sentence of(int promise, String words) {
        return new Sentence("Promise " + promise, words);
    }

    static Sentence terms(String words) {
        return new Sentence("Terms", words);
    }

    static Sentence about(String words) {
        return new Sentence("What it is", words);
    }

    private static String seen(Start start) {
        return SEEN.computeIfAbsent(start, View::whole);
    }

    Sentence same(String name, Object got, Object want) {
        Check.same(label + name, got, want);
        return this;
    }

    Sentence answers(String name, Start start, Start.Step step, Object want) {
        DominoChains game = start.game();
        return same(name, Check.outcome(() -> step.on(game)), want);
    }

    /** The call answers so, and changes nothing that can be seen. */
    Sentence tells(String name, Start start, Start.Step step, Object want) {
        answers(name, start, step, want);
        return same(name + ", what it changed", View.whole(start.trying(step)), seen(start));
    }

    Sentence refuses(String name, Start start, Start.Step step, Class<? extends RuntimeException> want) {
        return tells(name, start, step, "throws " + want.getSimpleName());
    }

    /** The indices from 0 on answer so. */
    Sentence each(String name, Start start, Indexed call, Object... wants) {
        for (int i = 0; i < wants.length; i++) {
            int index = i;
            tells(name + ", " + index, start, game -> call.on(game, index), wants[i]);
        }
        return this;
    }

    /** No number below 0 and none from the count on is answered, also where a product of it would wrap around. */
    Sentence refusesBeyond(String name, Start start, Indexed call, int count, Class<? extends RuntimeException> want) {
        int[] beyond = {-1, count, -2, count + 1, -256, 256, 65536, 1 << 29, 1 << 30, Integer.MAX_VALUE,
            Integer.MIN_VALUE, Integer.MIN_VALUE + 1};
        for (int index : beyond) {
            if (index < 0 || index >= count) {
                refuses(name + ", " + index, start, game -> call.on(game, index), want);
            }
        }
        return this;
    }

    Sentence loads(String text, int rounds) {
        return answers("load of " + text, BUSY.typing(text), game -> game.load(), rounds);
    }

    /** The text has this error, and nothing but the input buffer and the parse error changes. */
    Sentence errs(String text, int kind, int position) {
        Start typed = BUSY.typing(text);
        Start loaded = typed.trying(game -> game.load());
        answers("load of " + text, typed, game -> game.load(), "throws IllegalArgumentException");
        answers("kind of the error in " + text, loaded, game -> game.errorKind(), kind);
        answers("position of the error in " + text, loaded, game -> game.errorPosition(), position);
        answers("buffer after " + text, loaded, game -> game.append(0, 0, 0, 0, 0), 20);
        return same("match after " + text, View.match(loaded), BUSY_MATCH);
    }

    /** Two sentences of a promise: which players there are, and that there is no other one. */
    static void players(int promise, Start start, Indexed call, Object want0, Object want1) {
        of(promise, "- `player`: 0 or 1").each("player", start, call, want0, want1);
        of(promise, "if there is no such player").refusesBeyond("player", start, call, 2, INDEX);
    }

    static void chains(int promise, Start start, Indexed call, Object... wants) {
        of(promise, "- `chain`: index of the chain").each("chain", start, call, wants);
        of(promise, "if there is no such chain").refusesBeyond("chain", start, call, wants.length, INDEX);
    }

    static void moves(int promise, Start start, Indexed call, Object... wants) {
        of(promise, "- `move`: index of the move in the order of moves").each("move", start, call, wants);
        of(promise, "if there is no such move").refusesBeyond("move", start, call, wants.length, INDEX);
    }
}
