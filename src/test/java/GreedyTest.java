/** Promises 51 to 54: the greedy player. */
public final class GreedyTest {
    public static void main(String[] args) {
        moves();
        differences();
        overRound();
        Check.end();
    }

    private static void moves() {
        DominoChains game = Check.game("round 12 23, 36 66 65;");
        Check.same("the highest end", game.greedyMove(), 3);
        Check.same("the first of equals", Check.game("round 14 40 05;").greedyMove(), 0);
        Check.same("the higher of two ends", Check.game("round 01 12;").greedyMove(), 1);
        Check.same("an end of 0", Check.game("round 00 01 12; right 0; pass;").greedyMove(), 1);
        game.burn(1, true);
        Check.same("the highest end after a burn", game.greedyMove(), 2);
    }

    // Scores 9, 24, 7 in one chain.
    private static void differences() {
        DominoChains game = Check.game("round 36 66 61;");
        Check.same("both greedy", game.greedyDifference(), 9 - 24);
        Check.same("against greedy: pass, 9, 24", game.differenceAgainstGreedy(), 24 - 9);
        Check.same("greedy against the best", game.greedyAgainstBest(), 9 - 24);
        game.pass();
        Check.same("after a pass another pass ends it", game.differenceAgainstGreedy(), 0);
        Check.same("greedy does not pass", game.greedyAgainstBest(), 9 - 24);
        Check.same("both greedy after a pass", game.greedyDifference(), 9 - 24);
        game.burn(0, true);
        Check.same("against greedy after a burn", game.differenceAgainstGreedy(), 24);
        DominoChains ends = Check.game("round 10 02 24 46;");
        Check.same("scores 1 2 6 10, both greedy", ends.greedyDifference(), 10 - 6 + 2);
        Check.same("scores 1 2 6 10, against greedy", ends.differenceAgainstGreedy(), 10 - 6 + 2);
        // With 2 burnt in chain 1, the greedy player must open the 24 of chain 0.
        DominoChains best = Check.game("round 36 66 61, 10 02;");
        Check.same("against greedy, two chains", best.differenceAgainstGreedy(), 24 - 9 + 2);
        Check.same("greedy against the best, two chains", best.greedyAgainstBest(), 9 - 24 + 2);
    }

    private static void overRound() {
        for (String text : new String[] {"round 12 23;pass;pass;", "round 12 23;left 0;", "round 11;"}) {
            DominoChains game = Check.game(text);
            Check.fails("greedy: " + text, java.util.NoSuchElementException.class, () -> game.greedyMove());
            Check.same("both greedy: " + text, game.greedyDifference(), 0);
            Check.same("against greedy: " + text, game.differenceAgainstGreedy(), 0);
            Check.same("greedy against the best: " + text, game.greedyAgainstBest(), 0);
        }
    }
}
