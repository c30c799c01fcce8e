import java.util.ArrayList;
import java.util.List;

/**
 * All that can be seen of a game. Undoing, restoring and the like change a game, so each is looked
 * at in a new game.
 */
final class View {
    private View() {
    }

    /** What load leaves alone when it finds an error. */
    static String match(Start start) {
        return "state: " + state(start.game()) + "\nformatted text: " + formatted(start.game())
                + "\nundoing: " + undoing(start.game()) + "\nrestoring: " + restoring(start.game());
    }

    static String whole(Start start) {
        return match(start) + "\nparse error: " + error(start.game()) + "\nlength of the input buffer: "
                + held(start.game()) + "\nloading: " + loading(start.game());
    }

    static String state(DominoChains game) {
        List<Object> seen = new ArrayList<>();
        seen.add(List.of(game.roundCount(), game.currentRound(), game.isRoundOver(), game.isMatchOver()));
        for (int round = 0; round < game.roundCount(); round++) {
            seen.add(List.of(game.roundWinner(round), game.roundScore(round, 0), game.roundScore(round, 1)));
        }
        for (int player = 0; player < 2; player++) {
            seen.add(List.of(game.roundsWon(player), game.totalScore(player), game.tilesBurnt(player),
                    game.passes(player), game.meanTileScore(player)));
            seen.add(List.of(game.greatestPossibleScore(player), game.canStillWin(player)));
        }
        seen.add(List.of(game.matchWinner(), game.playerToMove(), game.chainCount()));
        for (int chain = 0; chain < game.chainCount(); chain++) {
            seen.add(chain(game, chain));
        }
        for (int move = 0; move < game.moveCount(); move++) {
            seen.add(List.of(game.moveChain(move), game.isLeftBurn(move), game.moveScore(move), game.moveValue(move)));
        }
        for (int index = 0; index < game.loggedMoveCount(); index++) {
            seen.add(List.of(game.loggedChain(index), game.loggedScore(index)));
        }
        seen.add(List.of(game.optimalDifference(), game.greedyDifference(), game.differenceAgainstGreedy(),
                game.greedyAgainstBest()));
        // Last, as it replaces the formatted text: it alone tells which ends the log's burns are of.
        seen.add(text(game, game.formatLog()));
        return seen.toString();
    }

    private static List<Object> chain(DominoChains game, int chain) {
        List<Object> tiles = new ArrayList<>();
        for (int tile = 0; tile < game.chainLength(chain); tile++) {
            tiles.add(game.leftPips(chain, tile) + "" + game.rightPips(chain, tile));
        }
        return tiles;
    }

    static String text(DominoChains game, int length) {
        StringBuilder text = new StringBuilder();
        for (int index = 0; index < length; index++) {
            text.append(game.formattedCharacter(index));
        }
        return text.toString();
    }

    private static String formatted(DominoChains game) {
        StringBuilder text = new StringBuilder();
        Object next = Check.outcome(() -> game.formattedCharacter(0));
        while (next instanceof Character) {
            text.append(next);
            next = Check.outcome(() -> game.formattedCharacter(text.length()));
        }
        return text.append(", then ").append(next).toString();
    }

    private static String undoing(DominoChains game) {
        List<Object> seen = new ArrayList<>();
        Object left = Check.outcome(() -> game.undo());
        for (int undone = 0; undone < 9 && left instanceof Integer; undone++) {
            seen.add(List.of(left, game.currentRound(), game.playerToMove(), game.isRoundOver(), game.totalScore(0),
                    game.totalScore(1), game.remainingScore(), game.loggedMoveCount()));
            left = Check.outcome(() -> game.undo());
        }
        seen.add(left);
        return seen.toString();
    }

    private static String restoring(DominoChains game) {
        return Check.outcome(() -> game.restore()) + " " + state(game);
    }

    private static String error(DominoChains game) {
        return game.errorKind() + " at " + game.errorPosition();
    }

    private static int held(DominoChains game) {
        int length = 500;
        while (length > 480 && !isHeld(game, length)) {
            length--;
        }
        return length > 480 ? length : game.append(0, 0, 0, 0, 0) - 20;
    }

    private static boolean isHeld(DominoChains game, int length) {
        return !"throws IllegalArgumentException".equals(Check.outcome(() -> {
            game.truncate(length);
            return length;
        }));
    }

    private static String loading(DominoChains game) {
        return Check.outcome(() -> game.load()) + " " + error(game) + " " + state(game);
    }
}
