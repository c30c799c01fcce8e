/** A way to come to a game. Each look at the game is a look at a new one, made in this way. */
interface Start {
    DominoChains game();

    /** A call on a game; a call without an answer answers anything but null. */
    interface Step {
        Object on(DominoChains game);
    }

    static Start fresh() {
        return DominoChains::new;
    }

    static Start text(String text) {
        return () -> Check.game(text);
    }

    default Start then(Step... steps) {
        return () -> {
            DominoChains game = game();
            for (Step step : steps) {
                step.on(game);
            }
            return game;
        };
    }

    /** The same way with a call that may be refused. */
    default Start trying(Step step) {
        return then(game -> Check.outcome(() -> step.on(game)));
    }

    default Start typing(String text) {
        return then(game -> {
            Check.type(game, 0, text);
            return text;
        });
    }
}
