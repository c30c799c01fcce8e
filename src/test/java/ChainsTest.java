/** Promises 20 to 28: the chains of the present round. */
public final class ChainsTest {
    public static void main(String[] args) {
        tiles();
        afterBurns();
        nextRound();
        wrongInputs();
        Check.end();
    }

    private static void tiles() {
        DominoChains game = new DominoChains();
        Check.same("chains", game.chainCount(), 2);
        Check.same("length", game.chainLength(1), 3);
        Check.same("left of 26", game.leftPips(0, 1), 2);
        Check.same("right of 26", game.rightPips(0, 1), 6);
        Check.same("left of 05", game.leftPips(1, 0), 0);
        Check.same("right of 51", game.rightPips(1, 2), 1);
        Check.same("score of 63", game.tileScore(0, 2), 9);
        Check.same("score of the double 55", game.tileScore(1, 1), 20);
        Check.same("chain 0", game.chainScore(0), 20);
        Check.same("chain 1", game.chainScore(1), 31);
        Check.same("all", game.remainingScore(), 51);
        int[] with = {1, 2, 2, 1, 0, 3, 2};
        for (int pips = 0; pips <= 6; pips++) {
            Check.same("tiles with " + pips, game.tilesWith(pips), with[pips]);
        }
        Check.same("doubles", game.doubleCount(), 1);
    }

    private static void afterBurns() {
        DominoChains game = new DominoChains();
        game.burn(0, true);
        game.burn(1, false);
        Check.same("length after burns", game.chainLength(0) + game.chainLength(1), 4);
        Check.same("the first tile is gone", game.leftPips(0, 0) + " " + game.rightPips(0, 0), "2 6");
        Check.same("the last tile is gone", game.rightPips(1, 1), 5);
        Check.noIndex("no third tile", () -> game.leftPips(0, 2));
        Check.noIndex("no third tile, right", () -> game.rightPips(1, 2));
        Check.noIndex("no third tile, score", () -> game.tileScore(1, 2));
        Check.same("chain 0 after burns", game.chainScore(0), 17);
        Check.same("all after burns", game.remainingScore(), 42);
        Check.same("tiles with 1 after burns", game.tilesWith(1), 0);
        game.burn(1, false);
        Check.same("doubles after burns", game.doubleCount(), 0);
        game.burn(0, true);
        Check.same("length of a burnt chain", game.chainLength(1), 1);
        Check.same("score of what remains", game.remainingScore(), 14);
    }

    private static void nextRound() {
        DominoChains game = Check.game("round 12 23, 33; round 00 04; left 0; next;");
        Check.same("chains of the next round", game.chainCount(), 1);
        Check.same("length in the next round", game.chainLength(0), 2);
        Check.same("score in the next round", game.remainingScore(), 4);
        Check.same("doubles in the next round", game.doubleCount(), 1);
        Check.same("tiles with 0 in the next round", game.tilesWith(0), 2);
        Check.noIndex("no chain of the round before", () -> game.chainLength(1));
    }

    private static void wrongInputs() {
        DominoChains game = new DominoChains();
        for (int wrong : new int[] {-1, 2, 3, Integer.MAX_VALUE, Integer.MIN_VALUE}) {
            Check.noIndex("chainLength " + wrong, () -> game.chainLength(wrong));
            Check.noIndex("leftPips chain " + wrong, () -> game.leftPips(wrong, 0));
            Check.noIndex("rightPips chain " + wrong, () -> game.rightPips(wrong, 0));
            Check.noIndex("tileScore chain " + wrong, () -> game.tileScore(wrong, 0));
            Check.noIndex("chainScore " + wrong, () -> game.chainScore(wrong));
        }
        for (int wrong : new int[] {-1, 3, Integer.MAX_VALUE, Integer.MIN_VALUE}) {
            Check.noIndex("leftPips tile " + wrong, () -> game.leftPips(1, wrong));
            Check.noIndex("rightPips tile " + wrong, () -> game.rightPips(1, wrong));
            Check.noIndex("tileScore tile " + wrong, () -> game.tileScore(1, wrong));
        }
        for (int wrong : new int[] {-1, 7, Integer.MAX_VALUE, Integer.MIN_VALUE}) {
            Check.noArgument("tilesWith " + wrong, () -> game.tilesWith(wrong));
        }
    }
}
