/** The boundaries of promises 7 to 19: rounds, winners and scores. */
final class MatchEdges {
    private static final int NONE = DominoChains.NONE;
    private static final String ONE = "round 11;";
    private static final Start.Step NEXT = game -> game.startNextRound();
    private static final Start.Step PASS = game -> game.pass();
    // Each is a round of one burn for each player: the first one leads by 1, is even, or is 1 behind.
    private static final String LEAD = "round 13 30, 12 24;left 0;left 1;";
    private static final String EVEN = "round 03 34, 12 24;left 0;left 1;";
    private static final String BEHIND = "round 12 24, 13 30;left 0;left 1;";

    private MatchEdges() {
    }

    static void run() {
        roundCount();
        currentRound();
        isRoundOver();
        isMatchOver();
        roundWinner();
        roundsWon();
        matchWinner();
        playerToMove();
        roundScore();
        totalScore();
        tilesBurnt();
        passes();
        meanTileScore();
        winnersOfRounds();
        startersOfRounds();
        winnersOfMatches();
    }

    /** Rounds of "12 23" and then the moves. */
    private static Start pairs(int rounds, String moves) {
        return Start.text("round 12 23;".repeat(rounds) + moves);
    }

    private static void roundCount() {
        Start.Step count = game -> game.roundCount();
        Sentence.of(7, "Returns the number of rounds of the match")
                .tells("new", Start.fresh(), count, 1)
                .tells("1", pairs(1, ""), count, 1)
                .tells("2", pairs(2, ""), count, 2)
                .tells("3", pairs(3, ""), count, 3)
                .tells("4", pairs(4, ""), count, 4)
                .tells("in the last round", pairs(2, "left 0;next;"), count, 2)
                .tells("after a refused fifth round", pairs(4, "").typing(ONE.repeat(5)).trying(game -> game.load()),
                        count, 4);
    }

    private static void currentRound() {
        Start.Step round = game -> game.currentRound();
        String end = "pass;pass;";
        Sentence.of(8, "Returns the index of the present round")
                .tells("first", pairs(4, ""), round, 0)
                .tells("first, over", pairs(4, end), round, 0)
                .tells("second", pairs(4, end + "next;"), round, 1)
                .tells("last", pairs(4, (end + "next;").repeat(3)), round, 3)
                .tells("last, over", pairs(4, (end + "next;").repeat(3) + end), round, 3)
                .tells("started by a call", pairs(4, end).then(NEXT), round, 1)
                .tells("undone", pairs(4, end).then(NEXT, game -> game.undo()), round, 0);
        Sentence.terms("The match begins with round 0")
                .tells("new", Start.fresh(), round, 0)
                .tells("loaded", pairs(4, ""), round, 0)
                .tells("a first round without moves", Start.text(ONE + ONE), round, 0)
                .tells("loaded in a later round", pairs(2, "left 0;").then(NEXT).typing("round 12 23;round 12 23;")
                        .then(game -> game.load()), round, 0);
    }

    private static void isRoundOver() {
        Start.Step over = game -> game.isRoundOver();
        Sentence.of(9, "Returns true if the present round is over")
                .tells("not begun to play", pairs(2, ""), over, false)
                .tells("over", pairs(2, "left 0;"), over, true)
                .tells("the next one", pairs(2, "left 0;next;"), over, false);
        Sentence.terms("A round is over when every chain has exactly one tile,")
                .tells("one tile", Start.text(ONE), over, true)
                .tells("three single tiles", Start.text("round 11,22,33;"), over, true)
                .tells("two tiles", pairs(1, ""), over, false)
                .tells("two tiles, burnt", pairs(1, "right 0;"), over, true)
                .tells("one of three chains has two", Start.text("round 11,22,33 34;"), over, false)
                .tells("none of three chains has two", Start.text("round 11,22,33 34;left 2;"), over, true)
                .tells("one of two chains is burnt down", Start.text("round 12 23,45 56;left 0;"), over, false)
                .tells("both chains are burnt down", Start.text("round 12 23,45 56;left 0;left 1;"), over, true);
        Sentence.terms("or when two consecutive moves of the round are passes")
                .tells("no pass", pairs(1, ""), over, false)
                .tells("one pass", pairs(1, "pass;"), over, false)
                .tells("two passes", pairs(1, "pass;pass;"), over, true)
                .tells("a burn between", Start.text("round 12 23 34 45;pass;left 0;pass;"), over, false)
                .tells("two passes after it", Start.text("round 12 23 34 45;pass;left 0;pass;pass;"), over, true)
                .tells("one pass by a call after one of the text", pairs(1, "pass;").then(PASS), over, true)
                .tells("one pass of the next round", pairs(2, "pass;pass;next;pass;"), over, false)
                .tells("a pass undone", pairs(1, "pass;").then(PASS, game -> game.undo()), over, false)
                .tells("the last burn after a pass", pairs(1, "pass;left 0;"), over, true);
    }

    private static void isMatchOver() {
        Start.Step over = game -> game.isMatchOver();
        for (Sentence sentence : new Sentence[] {Sentence.terms("The match is over when its last round is over"),
            Sentence.of(10, "Returns true if the present round is the last one and is over")}) {
            sentence.tells("one round, not over", pairs(1, "pass;"), over, false)
                    .tells("one round, over", pairs(1, "pass;pass;"), over, true)
                    .tells("over, but not the last", pairs(2, "left 0;"), over, false)
                    .tells("the last, but not over", pairs(2, "left 0;next;"), over, false)
                    .tells("the last, over", pairs(2, "left 0;next;left 0;"), over, true)
                    .tells("the third of four, over", Start.text(ONE.repeat(4) + "next;next;"), over, false)
                    .tells("the fourth of four, over as it begins", Start.text(ONE.repeat(4) + "next;next;next;"),
                            over, true);
        }
    }

    private static void roundWinner() {
        Sentence.Indexed winner = (game, round) -> game.roundWinner(round);
        Sentence.of(11, "Returns the winner of a round")
                .each("of three", pairs(3, "left 0;next;left 0;next;"), winner, 0, 1, NONE);
        Sentence.of(11, "- `round`: index of the round")
                .each("of one", pairs(1, "left 0;"), winner, 0)
                .each("of four", pairs(4, "left 0;next;left 0;next;left 0;next;right 0;"), winner, 0, 1, 0, 1);
        Sentence.of(11, "Returns the player who won it;")
                .each("by 1", Start.text(LEAD), winner, 0)
                .each("even", Start.text(EVEN), winner, NONE)
                .each("1 behind", Start.text(BEHIND), winner, 1);
        Sentence.of(11, "NONE if it is a draw or is not over")
                .each("0 to 0", pairs(1, "pass;pass;"), winner, NONE)
                .each("3 to 3", Start.text(EVEN), winner, NONE)
                .each("3 to 0, not over", Start.text("round 12 23 34;left 0;pass;"), winner, NONE)
                .each("3 to 0, over", Start.text("round 12 23 34;left 0;pass;pass;"), winner, 0)
                .each("undone", pairs(1, "").then(game -> game.burn(0, true), game -> game.undo()), winner, NONE)
                .each("not begun", pairs(2, "left 0;"), winner, 0, NONE);
        Sentence none = Sentence.of(11, "Throws `IndexOutOfBoundsException` if there is no such round");
        for (int rounds = 1; rounds <= 4; rounds++) {
            none.refusesBeyond("of " + rounds, pairs(rounds, ""), winner, rounds, Sentence.INDEX);
        }
    }

    private static void roundsWon() {
        Sentence.Indexed won = (game, player) -> game.roundsWon(player);
        Sentence.of(12, "Returns the number of rounds that a player has won, the present round included if it is over")
                .each("not over", pairs(3, "pass;"), won, 0, 0)
                .each("over", pairs(3, "pass;left 0;"), won, 0, 1)
                .each("the next one begun", pairs(3, "pass;left 0;next;"), won, 0, 1)
                .each("a draw", pairs(3, "pass;pass;"), won, 0, 0)
                .each("leads, but not over", Start.text("round 12 23 34;left 0;"), won, 0, 0)
                .each("undone", pairs(1, "").then(game -> game.burn(0, true), game -> game.undo()), won, 0, 0);
        Sentence.of(12, "Returns the number of rounds")
                .each("none", pairs(4, ""), won, 0, 0)
                .each("two and two draws",
                        Start.text("round 12 23;round 11;round 11;round 12 23;left 0;next;next;next;pass;left 0;"),
                        won, 2, 0)
                .each("two each", pairs(4, "left 0;next;left 0;next;left 0;next;left 0;"), won, 2, 2)
                .each("four to none", pairs(4, "left 0;next;pass;left 0;next;pass;left 0;next;pass;left 0;"), won, 4,
                        0);
        Sentence.players(12, pairs(3, "left 0;next;left 0;next;left 0;"), won, 2, 1);
    }

    private static void matchWinner() {
        Start.Step winner = game -> game.matchWinner();
        Sentence.of(13, "Returns the winner of the match;")
                .tells("0", pairs(1, "left 0;"), winner, 0)
                .tells("1", pairs(1, "pass;left 0;"), winner, 1);
        Sentence.of(13, "NONE if the match is not over or has no winner")
                .tells("the last round is not over", pairs(2, "left 0;next;pass;"), winner, NONE)
                .tells("the last round is over", pairs(2, "left 0;next;pass;pass;"), winner, 0)
                .tells("the first of two is over", pairs(2, "left 0;"), winner, NONE)
                .tells("leads, but not over", Start.text("round 12 23 34;left 0;"), winner, NONE)
                .tells("no winner", pairs(1, "pass;pass;"), winner, NONE)
                .tells("undone", pairs(1, "").then(game -> game.burn(0, true), game -> game.undo()), winner, NONE);
    }

    private static void playerToMove() {
        Start.Step player = game -> game.playerToMove();
        Sentence.of(14, "Returns the player who makes the next move;")
                .tells("new", Start.fresh(), player, 0)
                .tells("after one burn", Start.text("round 12 23 34;left 0;"), player, 1)
                .tells("after one pass", pairs(1, "pass;"), player, 1)
                .tells("after a burn and a pass", Start.text("round 12 23 34;left 0;pass;"), player, 0);
        Sentence.of(14, "if the round is over, the player who would have made it")
                .tells("over by one burn", pairs(1, "left 0;"), player, 1)
                .tells("over by two passes", pairs(1, "pass;pass;"), player, 0)
                .tells("over by two passes after a burn", Start.text("round 12 23 34;left 0;pass;pass;"), player, 1)
                .tells("over as it begins", Start.text(ONE), player, 0)
                .tells("over as it begins, begun by 1", Start.text("round 12 23;" + ONE + "left 0;next;"), player, 1);
        Sentence.terms("The players are 0 and 1")
                .tells("0", pairs(1, ""), player, 0)
                .tells("1", pairs(1, "pass;"), player, 1)
                .refuses("-1", pairs(1, ""), game -> game.totalScore(-1), Sentence.INDEX)
                .refuses("2", pairs(1, ""), game -> game.totalScore(2), Sentence.INDEX);
        Sentence alternate = Sentence.terms("They move alternately");
        String moves = "";
        for (int made = 0; made <= 7; made++) {
            alternate.tells(made + " moves", Start.text("round 12 23 34 45 56;" + moves), player, made % 2);
            moves += made % 2 == 0 ? "left 0;" : "pass;";
        }
        Sentence.terms("Player 0 makes the first move of round 0")
                .tells("new", Start.fresh(), player, 0)
                .tells("loaded", pairs(2, ""), player, 0)
                .tells("loaded when 1 was to move",
                        pairs(1, "pass;").typing("round 12 23;").then(game -> game.load()), player, 0)
                .answers("the first score is 0's", pairs(1, "left 0;"), game -> game.roundScore(0, 0), 3);
    }

    private static void roundScore() {
        Start three = Start.text("round 12 23 34;round 66 60;round 12 23;left 0;left 0;next;left 0;");
        Sentence.Indexed of0 = (game, round) -> game.roundScore(round, 0);
        Sentence.Indexed of1 = (game, round) -> game.roundScore(round, 1);
        Sentence.of(15, "Returns the score of a player in a round")
                .each("of 0", three, of0, 3, 24, 0)
                .each("of 1", three, of1, 5, 0, 0);
        Sentence.of(15, "- `round`: index of the round")
                .each("of one round", pairs(1, "left 0;"), of0, 3)
                .each("of four rounds", pairs(4, "left 0;"), of0, 3, 0, 0, 0);
        Sentence.of(15, "- `player`: 0 or 1")
                .each("round 0", three, (game, player) -> game.roundScore(0, player), 3, 5)
                .each("round 2", three, (game, player) -> game.roundScore(2, player), 0, 0);
        Sentence.of(15, "Returns the score;")
                .each("a double", Start.text("round 66 60;left 0;"), of0, 24)
                .each("a tile of 0", Start.text("round 00 01;left 0;"), of0, 0);
        Sentence.of(15, "0 if the round has not begun")
                .each("of 0", pairs(2, "left 0;"), of0, 3, 0)
                .each("begun", pairs(2, "left 0;next;"), of0, 3, 0)
                .each("begun and played", pairs(2, "left 0;next;pass;left 0;"), of0, 3, 3)
                .each("begun, played and undone", pairs(2, "left 0;").then(NEXT, PASS, game -> game.burn(0, true),
                        game -> game.undo(), game -> game.undo(), game -> game.undo()), of0, 3, 0);
        Sentence none = Sentence.of(15, "Throws `IndexOutOfBoundsException` if there is no such round or player");
        for (int rounds = 1; rounds <= 4; rounds++) {
            none.refusesBeyond("round of " + rounds, pairs(rounds, "left 0;"), of0, rounds, Sentence.INDEX);
        }
        none.refusesBeyond("player", three, (game, player) -> game.roundScore(0, player), 2, Sentence.INDEX)
                .refusesBeyond("player of the last round", three, (game, player) -> game.roundScore(2, player), 2,
                        Sentence.INDEX)
                .refuses("neither", three, game -> game.roundScore(3, 2), Sentence.INDEX)
                .refuses("a round less and a player more", three, game -> game.roundScore(-1, 2), Sentence.INDEX);
    }

    private static void totalScore() {
        Sentence.Indexed total = (game, player) -> game.totalScore(player);
        Sentence.of(16, "Returns the total score of a player over all rounds")
                .each("no round played", pairs(4, ""), total, 0, 0)
                .each("one round", pairs(4, "left 0;"), total, 3, 0)
                .each("four rounds", pairs(4, "left 0;next;right 0;next;left 0;next;left 0;"), total, 6, 8);
        Sentence.of(16, "Returns the score")
                .each("in the middle of a round", Start.text("round 12 23 34;left 0;"), total, 3, 0);
        Sentence.players(16, pairs(2, "left 0;next;right 0;"), total, 3, 5);
    }

    private static void tilesBurnt() {
        Sentence.Indexed burnt = (game, player) -> game.tilesBurnt(player);
        Sentence.of(17, "Returns the number of tiles that a player has burnt in the match")
                .each("none", pairs(2, ""), burnt, 0, 0)
                .each("a pass is none", pairs(2, "pass;"), burnt, 0, 0)
                .each("one", pairs(2, "pass;left 0;"), burnt, 0, 1)
                .each("over rounds", pairs(3, "left 0;next;pass;left 0;next;left 0;"), burnt, 2, 1)
                .each("a tile of 0", Start.text("round 00 01;left 0;"), burnt, 1, 0);
        Sentence.of(17, "Returns the number of tiles")
                .each("undone", pairs(1, "").then(game -> game.burn(0, true),
                game -> game.undo()), burnt, 0, 0);
        Sentence.players(17, Start.text("round 12 23 34 45;left 0;left 0;left 0;"), burnt, 2, 1);
    }

    private static void passes() {
        Sentence.Indexed passes = (game, player) -> game.passes(player);
        Sentence.of(18, "Returns the number of times that a player has passed in the match")
                .each("none", pairs(2, ""), passes, 0, 0)
                .each("a burn is none", pairs(2, "left 0;"), passes, 0, 0)
                .each("one", pairs(2, "pass;"), passes, 1, 0)
                .each("two", pairs(2, "pass;pass;"), passes, 1, 1)
                .each("over rounds", pairs(2, "pass;pass;next;pass;"), passes, 2, 1);
        Sentence.of(18, "Returns the number of passes")
                .each("undone", pairs(1, "").then(PASS, game -> game.undo()), passes, 0, 0);
        Sentence.players(18, Start.text("round 12 23 34;pass;left 0;pass;pass;"), passes, 2, 1);
    }

    private static void meanTileScore() {
        Sentence.Indexed mean = (game, player) -> game.meanTileScore(player);
        Sentence.of(19, "Returns the mean score of the tiles that a player has burnt in the match")
                .each("one tile", pairs(1, "left 0;"), mean, 3.0, 0.0)
                .each("over rounds", pairs(2, "left 0;next;pass;right 0;"), mean, 4.0, 0.0);
        Sentence.of(19, "Returns the total score divided by the number of burnt tiles, both converted to double;")
                .each("a half", Start.text("round 12 22 24;left 0;pass;left 0;"), mean, 5.5, 0.0)
                .each("a third", Start.text("round 12 22 23 30;left 0;pass;left 0;pass;left 0;"), mean, 16.0 / 3.0, 0.0)
                .each("of 1", Start.text("round 12 22 24;pass;left 0;pass;left 0;"), mean, 0.0, 5.5);
        Sentence.of(19, "0.0 if the player has burnt none")
                .each("no move", pairs(1, ""), mean, 0.0, 0.0)
                .each("a pass", pairs(1, "pass;"), mean, 0.0, 0.0)
                .each("a tile of 0", Start.text("round 00 01;left 0;"), mean, 0.0, 0.0)
                .each("a tile of 1", Start.text("round 01 12;left 0;"), mean, 1.0, 0.0);
        Sentence.players(19, Start.text("round 12 23 34;left 0;left 0;"), mean, 3.0, 5.0);
    }

    private static void winnersOfRounds() {
        Start.Step winner = game -> game.roundWinner(0);
        Sentence.terms("When a round is over, the player with the higher score in this round wins it;")
                .tells("4 to 3", Start.text(LEAD), winner, 0)
                .tells("3 to 4", Start.text(BEHIND), winner, 1)
                .tells("4 to 3, one burn before the end", Start.text("round 13 30, 12 24 40;left 0;left 1;"), winner,
                        NONE);
        Sentence.terms("equal scores are a draw")
                .tells("3 to 3", Start.text(EVEN), winner, NONE)
                .tells("0 to 0", pairs(1, "pass;pass;"), winner, NONE)
                .tells("0 to 0, with a burn", Start.text("round 00 01;left 0;"), winner, NONE)
                .tells("1 to 0", Start.text("round 01 12;left 0;"), winner, 0)
                .tells("0 to 1", Start.text("round 01 12;pass;left 0;"), winner, 1);
        Sentence.terms("The next round is started by the method startNextRound()")
                .tells("not by the end of a round", afterFirst(LEAD, ""), game -> game.currentRound(), 0)
                .tells("by the call", afterFirst(LEAD, "").then(NEXT), game -> game.currentRound(), 1);
    }

    private static Start afterFirst(String round, String more) {
        int end = round.indexOf(';') + 1;
        return Start.text(round.substring(0, end) + "round 12 23;round 12 23;" + round.substring(end) + more);
    }

    private static void startersOfRounds() {
        Start.Step player = game -> game.playerToMove();
        Sentence.terms("Its first move is made by the player with the lower score in the round before;")
                .tells("4 to 3", afterFirst(LEAD, "next;"), player, 1)
                .tells("3 to 4", afterFirst(BEHIND, "next;"), player, 0)
                .tells("4 to 3, by a call", afterFirst(LEAD, "").then(NEXT), player, 1)
                .tells("3 to 4, by a call", afterFirst(BEHIND, "").then(NEXT), player, 0)
                .tells("the round before alone counts",
                        Start.text("round 66 61;round 12 23;round 12 23;left 0;next;left 0;next;"), player, 0);
        Sentence.terms("after a draw it is made by the player who made the first move of the round before")
                .tells("3 to 3", afterFirst(EVEN, "next;"), player, 0)
                .tells("3 to 3, by a call", afterFirst(EVEN, "").then(NEXT), player, 0)
                .tells("0 to 0 after 3 to 3", afterFirst(EVEN, "next;pass;pass;next;"), player, 0)
                .tells("0 to 0 after 4 to 3", afterFirst(LEAD, "next;pass;pass;next;"), player, 1)
                .tells("0 to 0 after 3 to 4", afterFirst(BEHIND, "next;pass;pass;next;"), player, 0)
                .tells("0 to 0 after 4 to 3, by a call", afterFirst(LEAD, "next;pass;pass;").then(NEXT), player, 1)
                .tells("0 to 0 after 3 to 0 was undone", pairs(2, "").then(game -> game.burn(0, true), NEXT,
                        game -> game.undo(), game -> game.undo(), PASS, PASS, NEXT), player, 0)
                .tells("0 to 0 after 3 to 0 gave way to a saved state", pairs(2, "").then(game -> game.save(),
                        game -> game.burn(0, true), NEXT, game -> game.restore(), PASS, PASS, NEXT), player, 0)
                .tells("a round without moves, begun by 1",
                        Start.text("round 12 23;" + ONE + "round 12 23;left 0;next;next;"), player, 1);
    }

    private static void winnersOfMatches() {
        Start.Step winner = game -> game.matchWinner();
        // 0 wins 3 to 0 twice, 1 wins 24 to 0 once.
        Start rounds = Start.text("round 12 22;round 66 61;round 12 23;left 0;next;left 0;next;left 0;");
        Sentence.terms("The winner of the match is the player who has won more rounds;")
                .tells("2 to 1, with less in all", rounds, winner, 0)
                .tells("1 to 0", pairs(2, "left 0;next;pass;pass;"), winner, 0)
                .tells("0 to 1", pairs(2, "pass;left 0;next;pass;pass;"), winner, 1);
        Sentence.terms("if both have won equally many, it is the player with the higher total score over all rounds;")
                .tells("3 to 5", pairs(2, "left 0;next;right 0;"), winner, 1)
                .tells("5 to 3", pairs(2, "right 0;next;left 0;"), winner, 0)
                .tells("1 more", Start.text("round 13 34;round 12 23;left 0;next;left 0;"), winner, 0)
                .tells("1 less", Start.text("round 12 23;round 13 34;left 0;next;left 0;"), winner, 1);
        Sentence.terms("if these are equal, too, there is no winner")
                .tells("3 to 3", pairs(2, "left 0;next;left 0;"), winner, NONE)
                .tells("0 to 0", Start.text(ONE.repeat(4) + "next;next;next;"), winner, NONE);
    }
}
