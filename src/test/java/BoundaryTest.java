/**
 * Each sentence of the document, quoted, with the calls at its boundaries and on each side of them.
 * A refused call is shown to have changed nothing that can be seen. Fails if a sentence of "What it
 * is", "Terms" or a promise is quoted by no test.
 */
public final class BoundaryTest {
    // Titles, and what only says where another sentence or a part of the face belongs.
    private static final String[] NO_CASE = {"Tiles and chains.", "Rounds.", "Moves.", "Match.", "Optimal play.",
        "Greedy player.", "Text format.", "It consists of tokens.", "The grammar is:", "The kinds are:", "Edits.",
        "Exceptions.", "the interface says: ----"};

    public static void main(String[] args) {
        InputEdges.run();
        TextEdges.run();
        MatchEdges.run();
        ChainEdges.run();
        MoveEdges.run();
        OptimalEdges.run();
        GreedyEdges.run();
        EditEdges.run();
        FormatEdges.run();
        constants();
        for (String words : NO_CASE) {
            Doc.quote("Terms", words);
        }
        Doc.quote("What it is", "A two-player game in which the players remove dominoes from the ends of chains.");
        Doc.quote("What it is", "what later calls answer is free.");
        Doc.allQuoted();
        Check.end();
    }

    private static void constants() {
        Start.Step load = game -> game.load();
        Sentence.terms("The constants: `NONE = -1`: Returned if there is no such value")
                .same("value", DominoChains.NONE, -1)
                .answers("no position", Start.fresh(), game -> game.errorPosition(), -1)
                .answers("no winner of a round", Start.fresh(), game -> game.roundWinner(0), -1)
                .answers("no winner of the match", Start.fresh(), game -> game.matchWinner(), -1)
                .answers("no chain of a pass", Start.fresh(), game -> game.moveChain(4), -1)
                .answers("no chain of a logged pass", Start.text("round 12 23;pass;"), game -> game.loggedChain(0), -1);
        Sentence.terms("`NO_ERROR = 0`: No parse error").same("value", DominoChains.NO_ERROR, 0)
                .answers("returned", Start.fresh(), game -> game.errorKind(), 0);
        String[] names = {"SYNTAX_ERROR", "INVALID_PIPS", "MISMATCH", "DUPLICATE_TILE", "TOO_MANY", "INVALID_MOVE"};
        int[] values = {DominoChains.SYNTAX_ERROR, DominoChains.INVALID_PIPS, DominoChains.MISMATCH,
            DominoChains.DUPLICATE_TILE, DominoChains.TOO_MANY, DominoChains.INVALID_MOVE};
        String[] texts = {"", "round 17", "round 12 34", "round 12 21", "round 11,22,33,", "round 11;pass"};
        for (int i = 0; i < names.length; i++) {
            Sentence.terms("`" + names[i] + " = " + (i + 1) + "`: A parse error").same("value", values[i], i + 1)
                    .answers("returned", Start.fresh().typing(texts[i]).trying(load), game -> game.errorKind(), i + 1);
        }
    }
}
