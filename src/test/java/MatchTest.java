/** Promises 7 to 19: rounds, winners, scores. */
public final class MatchTest {
    // Tile scores: 3, 5, 7 and 9, 11 in round 0; 24, 6 in round 1; one tile in round 2.
    private static final String TEXT = "round 12 23 34, 45 56; round 66 60; round 11;";

    public static void main(String[] args) {
        roundsInTurn();
        starters();
        winners();
        counts();
        wrongInputs();
        Check.end();
    }

    private static void roundsInTurn() {
        DominoChains game = Check.game(TEXT);
        Check.same("rounds", game.roundCount(), 3);
        Check.same("round", game.currentRound(), 0);
        Check.same("round is over", game.isRoundOver(), false);
        game.burn(1, false);
        Check.same("player 1 moves", game.playerToMove(), 1);
        game.burn(0, false);
        Check.same("player 0 moves", game.playerToMove(), 0);
        Check.same("round winner before the end", game.roundWinner(0), DominoChains.NONE);
        Check.same("rounds won before the end", game.roundsWon(0), 0);
        game.burn(0, false);
        Check.same("round is over by burns", game.isRoundOver(), true);
        Check.same("match is not over", game.isMatchOver(), false);
        Check.same("player who would move", game.playerToMove(), 1);
        Check.same("round score of 0", game.roundScore(0, 0), 16);
        Check.same("round score of 1", game.roundScore(0, 1), 7);
        Check.same("round 0 is won", game.roundWinner(0), 0);
        Check.same("the present round counts when over", game.roundsWon(0), 1);
        Check.same("round 1 has not begun", game.roundScore(1, 0) + game.roundScore(2, 1), 0);
        Check.same("round 1 has no winner", game.roundWinner(1), DominoChains.NONE);
        game.startNextRound();
        Check.same("the loser starts", game.playerToMove(), 1);
        Check.same("round 1", game.currentRound(), 1);
        Check.same("round 1 is not over", game.isRoundOver(), false);
        game.burn(0, true);
        Check.same("round 1 score", game.roundScore(1, 1), 24);
        Check.same("round 1 is won", game.roundWinner(1), 1);
        Check.same("total 0", game.totalScore(0), 16);
        Check.same("total 1", game.totalScore(1), 31);
        Check.same("no match winner yet", game.matchWinner(), DominoChains.NONE);
        game.startNextRound();
        Check.same("a round of single tiles is over", game.isRoundOver(), true);
        Check.same("the match is over", game.isMatchOver(), true);
        Check.same("the loser of round 1 would move", game.playerToMove(), 0);
        Check.same("an empty round is a draw", game.roundWinner(2), DominoChains.NONE);
        Check.same("equally many rounds: the total decides", game.matchWinner(), 1);
    }

    private static void starters() {
        String rounds = "round 12 23; round 12 23; round 12 23;";
        DominoChains game = Check.game(rounds + "pass;pass;next;");
        Check.same("after a draw the same player starts", game.playerToMove(), 0);
        game = Check.game(rounds + "left 0;next;pass;pass;next;");
        Check.same("after a draw the starter of the round before starts", game.playerToMove(), 1);
        game = Check.game(rounds + "pass;left 0;next;");
        Check.same("the lower score starts", game.playerToMove(), 0);
        game = Check.game("round 12 23 34; round 12; pass; left 0; pass; pass; next;");
        Check.same("the lower score starts, over by passes", game.playerToMove(), 0);
        game = Check.game("round 12; round 12 23; next; pass;");
        Check.same("a round without moves is a draw", game.playerToMove(), 1);
    }

    private static void winners() {
        String rounds = "round 12 23; round 12 23;";
        Check.same("no winner", Check.game(rounds + "pass;pass;next;pass;pass;").matchWinner(), DominoChains.NONE);
        Check.same("one round won", Check.game(rounds + "left 0;next;pass;pass;").matchWinner(), 0);
        Check.same("equal in all", Check.game(rounds + "left 0;next;left 0;").matchWinner(), DominoChains.NONE);
        Check.same("higher total", Check.game(rounds + "left 0;next;right 0;").matchWinner(), 1);
        // Player 0 wins two rounds by 3 to 0, player 1 one round by 24 to 0.
        String more = "round 12 22; round 66 61; round 12 23; left 0; next; left 0; next; left 0;";
        DominoChains game = Check.game(more);
        Check.same("totals", game.totalScore(0) + " " + game.totalScore(1), "6 24");
        Check.same("rounds before the total", game.matchWinner(), 0);
        Check.same("rounds won by 0", game.roundsWon(0), 2);
        Check.same("rounds won by 1", game.roundsWon(1), 1);
        Check.same("won earlier", game.roundWinner(1), 1);
        Check.same("not over by one pass", Check.game("round 12 23; pass;").isMatchOver(), false);
        Check.same("over by two passes", Check.game("round 12 23; pass; pass;").isMatchOver(), true);
        Check.same("passes apart", Check.game("round 12 23 34; pass; left 0; pass;").isRoundOver(), false);
        Check.same("draw", Check.game("round 12 23 30;left 0;right 0;").roundWinner(0), DominoChains.NONE);
    }

    private static void counts() {
        DominoChains game = Check.game("round 12 23 34 40; round 66 60 04; pass;left 0;pass;left 0;right 0; next;");
        Check.same("tiles burnt by 0", game.tilesBurnt(0), 1);
        Check.same("tiles burnt by 1", game.tilesBurnt(1), 2);
        Check.same("passes of 0", game.passes(0), 2);
        Check.same("passes of 1", game.passes(1), 0);
        Check.same("mean of 0", game.meanTileScore(0), 4.0);
        Check.same("mean of 1", game.meanTileScore(1), 4.0);
        game.burn(0, false);
        Check.same("counts go over rounds", game.tilesBurnt(0) + game.tilesBurnt(1), 4);
        game.burn(0, true);
        Check.same("means go over rounds", game.meanTileScore(0) + game.meanTileScore(1), 4.0 + 32.0 / 3.0);
        Check.same("no tile burnt", new DominoChains().meanTileScore(1), 0.0);
        DominoChains zero = Check.game("round 00 01; left 0;");
        Check.same("a tile of score 0", zero.meanTileScore(0), 0.0);
        Check.same("a tile of score 0 counts", zero.tilesBurnt(0), 1);
    }

    private static void wrongInputs() {
        DominoChains game = Check.game(TEXT);
        for (int wrong : new int[] {-1, 3, Integer.MAX_VALUE, Integer.MIN_VALUE}) {
            Check.noIndex("roundWinner " + wrong, () -> game.roundWinner(wrong));
            Check.noIndex("roundScore " + wrong, () -> game.roundScore(wrong, 0));
        }
        for (int wrong : new int[] {-1, 2, Integer.MAX_VALUE, Integer.MIN_VALUE}) {
            Check.noIndex("roundsWon " + wrong, () -> game.roundsWon(wrong));
            Check.noIndex("roundScore player " + wrong, () -> game.roundScore(0, wrong));
            Check.noIndex("totalScore " + wrong, () -> game.totalScore(wrong));
            Check.noIndex("tilesBurnt " + wrong, () -> game.tilesBurnt(wrong));
            Check.noIndex("passes " + wrong, () -> game.passes(wrong));
            Check.noIndex("meanTileScore " + wrong, () -> game.meanTileScore(wrong));
        }
    }
}
