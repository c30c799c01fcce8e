/** Promises 29 to 40: the moves, the move log, and what can still be reached. */
public final class MovesTest {
    public static void main(String[] args) {
        orderOfMoves();
        overRound();
        log();
        ends();
        reach();
        wrongInputs();
        Check.end();
    }

    private static String moves(DominoChains game) {
        StringBuilder all = new StringBuilder();
        for (int move = 0; move < game.moveCount(); move++) {
            all.append(game.isPass(move) ? 'P' : game.isLeftBurn(move) ? 'L' : 'R');
            all.append(game.moveChain(move)).append(':').append(game.moveScore(move)).append(' ');
        }
        return all.toString();
    }

    private static void orderOfMoves() {
        DominoChains game = Check.game("round 12 23, 33, 05 55 51;");
        Check.same("moves", moves(game), "L0:3 R0:5 L2:5 R2:6 P-1:0 ");
        Check.same("move count", game.moveCount(), 5);
        game.burn(2, true);
        Check.same("moves after a burn", moves(game), "L0:3 R0:5 L2:20 R2:6 P-1:0 ");
        game.burn(0, true);
        Check.same("moves after two burns", moves(game), "L2:20 R2:6 P-1:0 ");
        game.pass();
        Check.same("moves after a pass", moves(game), "L2:20 R2:6 P-1:0 ");
    }

    private static void overRound() {
        for (String text : new String[] {"round 12 23;pass;pass;", "round 12 23;left 0;", "round 11;"}) {
            DominoChains game = Check.game(text);
            Check.same("no moves: " + text, game.moveCount(), 0);
            Check.noIndex("isPass: " + text, () -> game.isPass(0));
            Check.noIndex("moveChain: " + text, () -> game.moveChain(0));
            Check.noIndex("isLeftBurn: " + text, () -> game.isLeftBurn(0));
            Check.noIndex("moveScore: " + text, () -> game.moveScore(0));
            Check.same("highest end: " + text, game.highestEndScore(), 0);
        }
    }

    private static void log() {
        DominoChains game = Check.game("round 12 23, 05 55 51; round 12 23; pass; left 1; right 0;");
        game.burn(1, true);
        Check.same("log length", game.loggedMoveCount(), 4);
        int[] scores = {0, 5, 5, 20};
        int[] chains = {DominoChains.NONE, 1, 0, 1};
        for (int i = 0; i < 4; i++) {
            Check.same("logged score " + i, game.loggedScore(i), scores[i]);
            Check.same("logged chain " + i, game.loggedChain(i), chains[i]);
        }
        for (int wrong : new int[] {-1, 4, Integer.MAX_VALUE, Integer.MIN_VALUE}) {
            Check.noIndex("loggedScore " + wrong, () -> game.loggedScore(wrong));
            Check.noIndex("loggedChain " + wrong, () -> game.loggedChain(wrong));
        }
        game.startNextRound();
        Check.same("the log of a new round", game.loggedMoveCount(), 0);
        Check.noIndex("loggedScore in a new round", () -> game.loggedScore(0));
        DominoChains next = Check.game("round 12 23; round 12 23 34; left 0; next; pass; right 0;");
        Check.same("the log of the text's round", next.loggedMoveCount(), 2);
        longestLog();
    }

    // 21 burns with a pass before each are the longest round that there is.
    private static void longestLog() {
        DominoChains game = Check.game("round 00 01 11 12 22 23 33 30, 02 24 44 40 05 55 51 14, 06 66 61 13 34 45 52 26;");
        for (int i = 0; i < 21; i++) {
            game.pass();
            game.burn(i % 3, i % 2 == 0);
        }
        Check.same("the longest log", game.loggedMoveCount(), 42);
        Check.same("the longest round is over", game.isRoundOver(), true);
        Check.same("the longest text", game.formatLog(), 21 + 2 * 21 + 41);
        Check.same("the longest log, last score", game.loggedScore(41) > 0, true);
    }

    private static void ends() {
        DominoChains game = new DominoChains();
        Check.same("highest end", game.highestEndScore(), 9);
        Check.same("burns", game.burnsLeft(), 4);
        game.burn(1, true);
        Check.same("highest end after a burn", game.highestEndScore(), 20);
        Check.same("burns after a burn", game.burnsLeft(), 3);
        game.pass();
        game.pass();
        Check.same("highest end when over", game.highestEndScore(), 0);
        Check.same("burns left when over by passes", game.burnsLeft(), 3);
        Check.same("burns left when burnt down", Check.game("round 12 23;left 0;").burnsLeft(), 0);
        Check.same("a single tile is no end", Check.game("round 12 23, 66;").highestEndScore(), 5);
    }

    private static void reach() {
        DominoChains game = new DominoChains();
        Check.same("greatest at first", game.greatestPossibleScore(0), 43);
        Check.same("greatest at first of 1", game.greatestPossibleScore(1), 43);
        game.burn(0, false);
        Check.same("greatest after a burn", game.greatestPossibleScore(0), 43);
        Check.same("greatest after the other's burn", game.greatestPossibleScore(1), 34);
        Check.same("1 can still win", game.canStillWin(1), true);
        game.pass();
        game.pass();
        Check.same("greatest when over", game.greatestPossibleScore(0), 9);
        Check.same("greatest of the loser", game.greatestPossibleScore(1), 0);
        Check.same("the winner has won", game.canStillWin(0), true);
        Check.same("the loser has lost", game.canStillWin(1), false);
        DominoChains equal = Check.game("round 12 23 31; left 0;");
        Check.same("a greater score would be 5", equal.greatestPossibleScore(1), 5);
        Check.same("5 is more than 3", equal.canStillWin(1), true);
        DominoChains even = Check.game("round 12 20 03; right 0;");
        Check.same("a greater score would be 3", even.greatestPossibleScore(1), 3);
        Check.same("3 is not more than 3", even.canStillWin(1), false);
        DominoChains round = Check.game("round 66 62; round 12 23; left 0; next;");
        Check.same("the present round alone", round.greatestPossibleScore(0), 5);
        Check.same("the present round alone decides", round.canStillWin(1), true);
    }

    private static void wrongInputs() {
        DominoChains game = new DominoChains();
        for (int wrong : new int[] {-1, 5, Integer.MAX_VALUE, Integer.MIN_VALUE}) {
            Check.noIndex("isPass " + wrong, () -> game.isPass(wrong));
            Check.noIndex("moveChain " + wrong, () -> game.moveChain(wrong));
            Check.noIndex("isLeftBurn " + wrong, () -> game.isLeftBurn(wrong));
            Check.noIndex("moveScore " + wrong, () -> game.moveScore(wrong));
        }
        for (int wrong : new int[] {-1, 2, Integer.MAX_VALUE, Integer.MIN_VALUE}) {
            Check.noIndex("greatestPossibleScore " + wrong, () -> game.greatestPossibleScore(wrong));
            Check.noIndex("canStillWin " + wrong, () -> game.canStillWin(wrong));
        }
    }
}
