/** Promises 41 to 50: optimal play. */
public final class OptimalPlayTest {
    public static void main(String[] args) {
        twoTiles();
        threeTiles();
        zugzwang();
        afterPass();
        overRound();
        ties();
        chainsApart();
        lead();
        firstCalls();
        wrongInputs();
        Check.end();
    }

    private static String values(DominoChains game) {
        StringBuilder all = new StringBuilder();
        for (int move = 0; move < game.moveCount(); move++) {
            all.append(game.moveValue(move)).append(' ');
        }
        return all.toString();
    }

    private static void twoTiles() {
        DominoChains game = Check.game("round 12 23;");
        Check.same("values", values(game), "3 5 -5 ");
        Check.same("difference", game.optimalDifference(), 5);
        Check.same("optimal", game.optimalMove(), 1);
        Check.same("worst", game.worstMove(), 2);
        Check.same("optimal moves", game.optimalMoveCount(), 1);
        Check.same("line", game.optimalLineLength(), 1);
        Check.same("line score", game.optimalLineScore(0), 5);
        Check.same("forced pass", game.isPassForced(), false);
    }

    // Scores 8, 6, 9.
    private static void threeTiles() {
        DominoChains game = Check.game("round 62 24 45;");
        Check.same("values", values(game), "-1 1 -1 ");
        Check.same("optimal", game.optimalMove(), 1);
        Check.same("the first of two worst", game.worstMove(), 0);
        Check.same("line", game.optimalLineLength(), 2);
        Check.same("line, first score", game.optimalLineScore(0), 9);
        Check.same("line, second score", game.optimalLineScore(1), 8);
    }

    // Scores 9, 24, 7: whoever burns first gives the 24 away.
    private static void zugzwang() {
        DominoChains game = Check.game("round 36 66 61;");
        Check.same("values", values(game), "-15 -17 0 ");
        Check.same("difference", game.optimalDifference(), 0);
        Check.same("the pass is optimal", game.optimalMove(), 2);
        Check.same("the pass is forced", game.isPassForced(), true);
        Check.same("worst", game.worstMove(), 1);
        Check.same("line", game.optimalLineLength(), 2);
        Check.same("line of passes", game.optimalLineScore(0) + game.optimalLineScore(1), 0);
    }

    private static void afterPass() {
        DominoChains game = Check.game("round 36 66 61; pass;");
        Check.same("values after a pass", values(game), "-15 -17 0 ");
        Check.same("forced after a pass", game.isPassForced(), true);
        Check.same("line after a pass", game.optimalLineLength(), 1);
        DominoChains better = Check.game("round 12 23; pass;");
        Check.same("a second pass ends the round", values(better), "3 5 0 ");
        Check.same("difference after a pass", better.optimalDifference(), 5);
        better.burn(0, false);
        Check.same("difference when over", better.optimalDifference(), 0);
    }

    private static void overRound() {
        for (String text : new String[] {"round 12 23;pass;pass;", "round 12 23;left 0;", "round 11;"}) {
            DominoChains game = Check.game(text);
            Check.same("difference: " + text, game.optimalDifference(), 0);
            Check.same("optimal moves: " + text, game.optimalMoveCount(), 0);
            Check.same("forced pass: " + text, game.isPassForced(), false);
            Check.same("line: " + text, game.optimalLineLength(), 0);
            Check.noIndex("line score: " + text, () -> game.optimalLineScore(0));
            Check.noIndex("value: " + text, () -> game.moveValue(0));
            Check.fails("optimal: " + text, java.util.NoSuchElementException.class, () -> game.optimalMove());
            Check.fails("worst: " + text, java.util.NoSuchElementException.class, () -> game.worstMove());
        }
    }

    private static void ties() {
        DominoChains game = Check.game("round 22 26;");
        Check.same("values of 8 and 8", values(game), "8 8 -8 ");
        Check.same("two are optimal", game.optimalMoveCount(), 2);
        Check.same("the first of two", game.optimalMove(), 0);
        DominoChains even = Check.game("round 13 30 04;");
        Check.same("values of 4, 3, 4", values(even), "0 0 0 ");
        Check.same("all are optimal", even.optimalMoveCount(), 3);
        Check.same("the first is optimal", even.optimalMove(), 0);
        Check.same("the first is the worst, too", even.worstMove(), 0);
        Check.same("a pass with others is not forced", even.isPassForced(), false);
    }

    private static void chainsApart() {
        DominoChains game = Check.game("round 12 23, 36 66 61, 44;");
        Check.same("chain of two", game.chainDifference(0), 5);
        Check.same("chain of three", game.chainDifference(1), 0);
        Check.same("chain of one", game.chainDifference(2), 0);
        game.burn(1, true);
        Check.same("chain after a burn", game.chainDifference(1), 24);
        game.pass();
        Check.same("no move has been made there", game.chainDifference(0), 5);
        game.pass();
        Check.same("the round is over, the chain's difference stays", game.chainDifference(1), 24);
    }

    private static void lead() {
        DominoChains game = Check.game("round 66 61; round 36 66 64; left 0; next;");
        Check.same("the lead counts the present round alone", game.expectedLead(), 0);
        game.burn(0, true);
        Check.same("the lead of the next player", game.expectedLead(), 24 - 9);
        game.pass();
        Check.same("the lead after a pass", game.expectedLead(), 9 + 24);
        game.pass();
        Check.same("the lead when over", game.expectedLead(), -9);
    }

    // No call may lean on what a call before it has found out, for this or for an earlier match.
    private static void firstCalls() {
        String text = "round 62 24 45;";
        Check.same("first call: value", Check.game(text).moveValue(1), 1);
        Check.same("first call: optimal", Check.game(text).optimalMove(), 1);
        Check.same("first call: worst", Check.game(text).worstMove(), 0);
        Check.same("first call: count", Check.game(text).optimalMoveCount(), 1);
        Check.same("first call: line score", Check.game(text).optimalLineScore(1), 8);
        Check.same("first call: chain", Check.game(text).chainDifference(0), 1);
        Check.same("first call: lead", Check.game(text).expectedLead(), 1);
        Check.same("first call: forced", Check.game("round 36 66 61;").isPassForced(), true);
        DominoChains game = Check.game(text);
        Check.same("the earlier match", game.optimalDifference() + " " + game.differenceAgainstGreedy(), "1 1");
        Check.type(game, 0, "round 12 23;");
        game.load();
        Check.same("the match that is loaded then", game.optimalDifference(), 5);
        Check.same("the same against a greedy player", game.differenceAgainstGreedy(), 5);
    }

    private static void wrongInputs() {
        DominoChains game = new DominoChains();
        int line = game.optimalLineLength();
        for (int wrong : new int[] {-1, 5, Integer.MAX_VALUE, Integer.MIN_VALUE}) {
            Check.noIndex("moveValue " + wrong, () -> game.moveValue(wrong));
            Check.noIndex("chainDifference " + wrong, () -> game.chainDifference(wrong));
        }
        Check.noIndex("chainDifference 2", () -> game.chainDifference(2));
        for (int wrong : new int[] {-1, line, Integer.MAX_VALUE, Integer.MIN_VALUE}) {
            Check.noIndex("optimalLineScore " + wrong, () -> game.optimalLineScore(wrong));
        }
    }
}
