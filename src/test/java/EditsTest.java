/** Promises 55 to 61: the edits, undo and the saved state. */
public final class EditsTest {
    public static void main(String[] args) {
        burn();
        pass();
        playOptimally();
        startNextRound();
        undo();
        undoRestoresAll();
        savedState();
        Check.end();
    }

    private static void burn() {
        DominoChains game = new DominoChains();
        Check.same("burn right", game.burn(1, false), 6);
        Check.same("burn a double", game.burn(1, false), 20);
        Check.same("score of 0", game.roundScore(0, 0), 6);
        Check.same("score of 1", game.roundScore(0, 1), 20);
        Check.noState("burn the last tile", () -> game.burn(1, true));
        Check.noState("burn the last tile, right", () -> game.burn(1, false));
        for (int wrong : new int[] {-1, 2, Integer.MAX_VALUE, Integer.MIN_VALUE}) {
            Check.noIndex("burn " + wrong, () -> game.burn(wrong, true));
        }
        Check.same("failed burns change nothing", game.loggedMoveCount(), 2);
        Check.same("burn left", game.burn(0, true), 3);
        game.pass();
        game.pass();
        Check.noState("burn when over", () -> game.burn(0, true));
        Check.noIndex("no chain comes before over", () -> game.burn(2, true));
        Check.same("failed burns are no edits", game.undo(), 4);
    }

    private static void pass() {
        DominoChains game = new DominoChains();
        Check.same("first pass", game.pass(), false);
        Check.same("pass changes the player", game.playerToMove(), 1);
        game.burn(0, true);
        Check.same("pass after a burn", game.pass(), false);
        Check.same("second pass", game.pass(), true);
        Check.noState("third pass", () -> game.pass());
        Check.same("passes", game.passes(0) + " " + game.passes(1), "2 1");
        Check.noState("pass when burnt down", () -> Check.game("round 11;").pass());
    }

    private static void playOptimally() {
        DominoChains game = Check.game("round 62 24 45;");
        Check.same("one move", game.playOptimally(1), 1);
        Check.same("the first of the line", Check.formatted(game, game.formatLog()), "R0");
        Check.same("until the round is over", game.playOptimally(30), 1);
        Check.same("over", game.isRoundOver(), true);
        Check.same("none", game.playOptimally(1), 0);
        Check.same("none is an edit, too", game.undo(), 2);
        Check.same("a play is one edit", game.undo(), 1);
        Check.same("back before the second play", game.loggedMoveCount(), 1);
        for (int wrong : new int[] {0, -1, 31, Integer.MAX_VALUE, Integer.MIN_VALUE}) {
            Check.noArgument("playOptimally " + wrong, () -> game.playOptimally(wrong));
        }
        Check.same("failed plays are no edits", game.undo(), 0);
        DominoChains line = new DominoChains();
        int length = line.formatOptimalLine();
        String text = Check.formatted(line, length);
        line.playOptimally(30);
        Check.same("the line is what is played", Check.formatted(line, line.formatLog()), text);
    }

    private static void startNextRound() {
        DominoChains game = Check.game("round 12 23; round 34 44, 55;");
        Check.noState("next before the end", () -> game.startNextRound());
        game.burn(0, true);
        Check.same("next", game.startNextRound(), 1);
        Check.same("the log is empty", game.loggedMoveCount(), 0);
        Check.same("the chains are the round's", Check.formatted(game, game.formatChain(0)), "34-44");
        Check.same("the loser starts", game.playerToMove(), 1);
        Check.same("one pass of the new round", game.pass(), false);
        game.pass();
        Check.noState("next after the last round", () -> game.startNextRound());
        Check.same("failed starts are no edits", game.undo(), 3);
        DominoChains passes = Check.game("round 12 23; round 12 23; pass; pass;");
        passes.startNextRound();
        Check.same("passes of the round before do not count", passes.pass(), false);
    }

    private static void undo() {
        DominoChains game = Check.game("round 00 01 12 23 34 45 56 66, 11 13 35 50;");
        for (int i = 0; i < 9; i++) {
            game.burn(i % 4 == 3 ? 1 : 0, true);
        }
        for (int left = 7; left >= 0; left--) {
            Check.same("undo, left " + left, game.undo(), left);
            Check.same("log after undo", game.loggedMoveCount(), left + 1);
        }
        Check.noState("only 8 edits are kept", () -> game.undo());
        Check.same("the ninth stands", game.roundScore(0, 0), 0);
        Check.same("the ninth burn", Check.formatted(game, game.formatChain(0)), "01-12-23-34-45-56-66");
        game.burn(0, false);
        Check.same("undo after new edits", game.undo(), 0);
        game.pass();
        game.pass();
        Check.same("undo of a second pass", game.undo(), 1);
        Check.same("one pass stands", game.isRoundOver(), false);
        Check.same("the next pass ends it", game.pass(), true);
    }

    private static void undoRestoresAll() {
        DominoChains game = Check.game("round 12 23; round 34 44, 55;");
        game.formatChain(0);
        game.append(0, 0, 0, 0, 0);
        game.burn(0, true);
        game.startNextRound();
        game.pass();
        game.burn(0, true);
        Check.same("undo", game.undo() + game.undo(), 3 + 2);
        Check.same("passes", game.passes(1), 0);
        Check.same("tiles burnt", game.tilesBurnt(0), 1);
        Check.same("player", game.playerToMove(), 1);
        game.undo();
        Check.same("round", game.currentRound(), 0);
        Check.same("chains", game.chainCount(), 1);
        Check.same("round is over", game.isRoundOver(), true);
        Check.same("round winner", game.roundWinner(0), 0);
        Check.same("log", game.loggedMoveCount(), 1);
        Check.same("optimal play of the round", game.chainDifference(0), 0);
        game.undo();
        Check.same("round is not over", game.isRoundOver(), false);
        Check.same("round has no winner", game.roundWinner(0), DominoChains.NONE);
        Check.same("score", game.totalScore(0), 0);
        Check.same("tiles burnt at first", game.tilesBurnt(0), 0);
        Check.same("optimal play of the first round", game.optimalDifference(), 5);
        Check.same("the formatted text stays", Check.formatted(game, 5), "12-23");
        Check.same("the input buffer stays", game.append(0, 0, 0, 0, 0), 40);
        Check.noArgument("load of an error", () -> game.load());
        game.pass();
        game.undo();
        Check.same("the parse error stays", game.errorKind(), DominoChains.SYNTAX_ERROR);
    }

    private static void savedState() {
        DominoChains game = Check.game("round 12 23 34; round 34 44; pass;");
        Check.noState("nothing saved", () -> game.restore());
        Check.noState("a failed restore is no edit", () -> game.undo());
        Check.same("save", game.save(), 1);
        Check.noState("save is no edit", () -> game.undo());
        game.burn(0, false);
        game.burn(0, false);
        game.startNextRound();
        game.pass();
        Check.same("restore", game.restore(), 1);
        Check.same("restored round", game.currentRound(), 0);
        Check.same("restored player", game.playerToMove(), 1);
        Check.same("restored chain", game.chainLength(0), 3);
        Check.same("restored scores", game.totalScore(0) + game.totalScore(1), 0);
        Check.same("restored passes", game.passes(0) + game.passes(1), 1);
        Check.same("restore is an edit", game.undo(), 4);
        Check.same("back in round 1", game.currentRound(), 1);
        Check.same("the saved state is kept", game.restore(), 1);
        Check.same("a second pass", game.pass(), true);
        Check.same("save replaces", game.save(), 2);
        game.undo();
        Check.same("undo leaves the saved state", game.restore(), 2);
        Check.same("restored end", game.isRoundOver(), true);
    }
}
