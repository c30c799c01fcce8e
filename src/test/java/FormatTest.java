/** Promises 62 to 65: the formatted text. */
public final class FormatTest {
    public static void main(String[] args) {
        chain();
        log();
        line();
        characters();
        Check.end();
    }

    private static void chain() {
        DominoChains game = new DominoChains();
        Check.same("length", game.formatChain(1), 8);
        Check.same("chain", Check.formatted(game, 8), "05-55-51");
        game.burn(1, true);
        Check.same("the text stays", Check.formatted(game, 8), "05-55-51");
        Check.same("chain after a burn", Check.formatted(game, game.formatChain(1)), "55-51");
        for (int wrong : new int[] {-1, 2, 3, Integer.MAX_VALUE, Integer.MIN_VALUE}) {
            Check.noIndex("formatChain " + wrong, () -> game.formatChain(wrong));
        }
        Check.same("a failed format leaves the text", Check.formatted(game, 5), "55-51");
        game.burn(1, true);
        Check.same("one tile", Check.formatted(game, game.formatChain(1)), "51");
        DominoChains eight = Check.game("round 00 01 12 23 34 45 56 66;");
        Check.same("eight tiles", Check.formatted(eight, eight.formatChain(0)), "00-01-12-23-34-45-56-66");
    }

    private static void log() {
        DominoChains game = Check.game("round 12 23, 36 66 61, 44 45; pass; left 1; right 2;");
        game.burn(0, false);
        game.pass();
        Check.same("log", Check.formatted(game, game.formatLog()), "P L1 R2 R0 P");
        DominoChains fresh = new DominoChains();
        fresh.formatChain(0);
        Check.same("empty log", Check.formatted(fresh, fresh.formatLog()), "");
    }

    private static void line() {
        DominoChains game = Check.game("round 62 24 45;");
        Check.same("line", Check.formatted(game, game.formatOptimalLine()), "R0 L0");
        game.burn(0, false);
        Check.same("the line begins now", Check.formatted(game, game.formatOptimalLine()), "L0");
        game.burn(0, false);
        Check.same("no line", game.formatOptimalLine(), 0);
        Check.noIndex("no line, no character", () -> game.formattedCharacter(0));
        DominoChains passes = Check.game("round 36 66 61;");
        Check.same("passes", Check.formatted(passes, passes.formatOptimalLine()), "P P");
        Check.same("the line is not played", passes.loggedMoveCount(), 0);
    }

    private static void characters() {
        DominoChains game = new DominoChains();
        Check.noIndex("no text", () -> game.formattedCharacter(0));
        game.formatChain(0);
        Check.same("character", game.formattedCharacter(2), '-');
        Check.same("last character", game.formattedCharacter(7), '3');
        for (int wrong : new int[] {-1, 8, Integer.MAX_VALUE, Integer.MIN_VALUE}) {
            Check.noIndex("formattedCharacter " + wrong, () -> game.formattedCharacter(wrong));
        }
        game.formatLog();
        Check.noIndex("a text of length 0", () -> game.formattedCharacter(0));
    }
}
