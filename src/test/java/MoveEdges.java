/** The boundaries of promises 29 to 40: the moves, the move log, and what can still be reached. */
final class MoveEdges {
    private static final int NONE = DominoChains.NONE;
    // The moves L0 3, R0 5, L2 5, R2 6 and the pass.
    private static final Start FIVE = Start.text("round 12 23, 33, 05 55 51;");
    // The moves L0 3, R0 5, L1 9, R1 11, L2 12, R2 3 and the pass.
    private static final Start SEVEN = Start.text("round 12 23, 45 56, 33 30;");
    private static final Start[] OVER = {Start.text("round 11;"), Start.text("round 12 23;left 0;"),
        Start.text("round 12 23;pass;pass;"), Start.text("round 11,22;round 12 23;")};
    private static final Start SECOND = Start.text("round 66 61,55 54,44 43;round 12 23;pass;pass;next;");
    private static final String LONGEST = "round 00 01 11 12 22 23 33 30, 02 24 44 40 05 55 51 14, "
            + "06 66 61 13 34 45 52 26;";

    private MoveEdges() {
    }

    static void run() {
        moves();
        order();
        burns();
        moveCount();
        isPass();
        moveChain();
        isLeftBurn();
        moveScore();
        loggedMoveCount();
        loggedScore();
        loggedChain();
        highestEndScore();
        burnsLeft();
        greatestPossibleScore();
        canStillWin();
    }

    /** The longest round that there is: 21 burns, each with a pass before it. */
    private static Start longest(int moves) {
        return Start.text(LONGEST).then(game -> {
            for (int move = 0; move < moves; move++) {
                if (move % 2 == 0) {
                    game.pass();
                } else {
                    game.burn(move / 2 % 3, true);
                }
            }
            return moves;
        });
    }

    private static String list(DominoChains game) {
        StringBuilder list = new StringBuilder();
        for (int move = 0; move < game.moveCount(); move++) {
            list.append(game.isPass(move) ? "P" : game.isLeftBurn(move) ? "L" : "R");
            list.append(game.isPass(move) ? "" : game.moveChain(move)).append(' ');
        }
        return list.toString();
    }

    private static void moves() {
        Start two = Start.text("round 12 23;");
        Sentence.terms("Instead of a burn, a player may pass")
                .answers("first", two, game -> game.pass(), false)
                .answers("after a burn", FIVE.then(game -> game.burn(0, true)), game -> game.pass(), false)
                .answers("after a pass", two.then(game -> game.pass()), game -> game.pass(), true)
                .answers("a burn after a pass", two.then(game -> game.pass()), game -> game.burn(0, true), 3)
                .answers("the score of a pass", two.then(game -> game.pass()), game -> game.totalScore(0), 0);
        Sentence none = Sentence.terms("A round that is over has no moves")
                .tells("not over", two, game -> game.moveCount(), 3);
        for (Start over : OVER) {
            none.tells("count", over, game -> game.moveCount(), 0)
                    .refuses("first move", over, game -> game.isPass(0), Sentence.INDEX)
                    .refuses("pass", over, game -> game.pass(), Sentence.STATE)
                    .refuses("burn", over, game -> game.burn(0, true), Sentence.STATE);
        }
    }

    private static void order() {
        Sentence.terms("Moves are ordered as follows: burns by ascending chain indices, the left end of a chain "
                + "before its right end, and then the pass")
                .tells("three chains", SEVEN, MoveEdges::list, "L0 R0 L1 R1 L2 R2 P ")
                .tells("the middle chain has one tile", FIVE, MoveEdges::list, "L0 R0 L2 R2 P ")
                .tells("the first chain has one tile", FIVE.then(game -> game.burn(0, true)), MoveEdges::list,
                        "L2 R2 P ")
                .tells("the last chain has one tile", SEVEN.then(game -> game.burn(2, true)), MoveEdges::list,
                        "L0 R0 L1 R1 P ")
                .tells("after a pass", SEVEN.then(game -> game.pass()), MoveEdges::list, "L0 R0 L1 R1 L2 R2 P ");
    }

    private static void burns() {
        Start three = Start.text("round 12 23 34;");
        Sentence.terms("A burn removes the first tile (the left end) or the last tile (the right end) of a chain "
                + "that has at least two tiles, and the player who burns gets the score of the tile")
                .answers("left of three", three, game -> game.burn(0, true), 3)
                .answers("right of three", three, game -> game.burn(0, false), 7)
                .answers("what is left of it", three.then(game -> game.burn(0, true)),
                        game -> View.text(game, game.formatChain(0)), "23-34")
                .answers("what is left of it, right", three.then(game -> game.burn(0, false)),
                        game -> View.text(game, game.formatChain(0)), "12-23")
                .answers("left of two", three.then(game -> game.burn(0, true)), game -> game.burn(0, true), 5)
                .answers("right of two", three.then(game -> game.burn(0, true)), game -> game.burn(0, false), 7)
                .refuses("left of one", FIVE, game -> game.burn(1, true), Sentence.STATE)
                .refuses("right of one", FIVE, game -> game.burn(1, false), Sentence.STATE)
                .answers("score of 0", three.then(game -> game.burn(0, true), game -> game.burn(0, false)),
                        game -> game.roundScore(0, 0), 3)
                .answers("score of 1", three.then(game -> game.burn(0, true), game -> game.burn(0, false)),
                        game -> game.roundScore(0, 1), 7);
        Start one = FIVE.then(game -> game.burn(0, false));
        Sentence.terms("The last tile of a chain is never removed")
                .answers("two", FIVE, game -> game.burn(0, true), 3)
                .refuses("one, left", one, game -> game.burn(0, true), Sentence.STATE)
                .refuses("one, right", one, game -> game.burn(0, false), Sentence.STATE)
                .tells("it stays", one.trying(game -> game.burn(0, true)), game -> game.chainLength(0), 1)
                .answers("played on to the end", FIVE.then(game -> game.playOptimally(30)),
                        game -> game.chainLength(0) > 0
                        && game.chainLength(1) > 0 && game.chainLength(2) > 0, true);
    }

    private static void moveCount() {
        Start.Step count = game -> game.moveCount();
        Sentence.of(29, "Returns the number of moves of the player to move;")
                .tells("one chain", Start.text("round 12 23;"), count, 3)
                .tells("two chains", FIVE, count, 5)
                .tells("three chains", SEVEN, count, 7)
                .tells("long chains have no more", Start.text(LONGEST), count, 7)
                .tells("after a pass", SEVEN.then(game -> game.pass()), count, 7)
                .tells("one chain has one tile then", SEVEN.then(game -> game.burn(1, true)), count, 5)
                .tells("two chains have one tile then",
                        SEVEN.then(game -> game.burn(1, true), game -> game.burn(0, true)), count, 3);
        Sentence over = Sentence.of(29, "0 if the round is over");
        for (Start start : OVER) {
            over.tells("over", start, count, 0);
        }
        over.tells("one move before", Start.text("round 12 23;pass;"), count, 3)
                .tells("over by the third burn", SEVEN.then(game -> game.burn(1, true), game -> game.burn(0, true),
                        game -> game.burn(2, true)), count, 0);
    }

    private static void refusedWhenOver(int promise, Sentence.Indexed call) {
        Sentence none = Sentence.of(promise, "if there is no such move");
        none.refusesBeyond("of 7", SEVEN, call, 7, Sentence.INDEX)
                .refusesBeyond("of 3", Start.text("round 12 23;pass;"), call, 3, Sentence.INDEX);
        for (Start over : OVER) {
            none.refusesBeyond("of none", over, call, 0, Sentence.INDEX);
        }
    }

    private static void isPass() {
        Sentence.Indexed isPass = (game, move) -> game.isPass(move);
        Sentence.of(30, "Tells whether a move is a pass")
                .each("of 7", SEVEN, isPass, false, false, false, false, false, false, true);
        Sentence.of(30, "Returns true for the pass")
                .each("of 3", Start.text("round 12 23;"), isPass, false, false, true);
        Sentence.moves(30, FIVE, isPass, false, false, false, false, true);
        refusedWhenOver(30, isPass);
    }

    private static void moveChain() {
        Sentence.Indexed chain = (game, move) -> game.moveChain(move);
        Sentence.of(31, "Returns the chain of a burn")
                .each("of 7", SEVEN, chain, 0, 0, 1, 1, 2, 2, NONE);
        Sentence.of(31, "Returns the index of the chain;")
                .each("past a single tile", Start.text("round 11,22,34 45;"), chain, 2, 2, NONE);
        Sentence.of(31, "NONE for the pass")
                .each("of 3", Start.text("round 12 23;"), chain, 0, 0, NONE);
        Sentence.moves(31, FIVE, chain, 0, 0, 2, 2, NONE);
        refusedWhenOver(31, chain);
    }

    private static void isLeftBurn() {
        Sentence.Indexed left = (game, move) -> game.isLeftBurn(move);
        Sentence.of(32, "Tells whether a move is a burn of a left end")
                .each("of 7", SEVEN, left, true, false, true, false, true, false, false);
        Sentence.of(32, "Returns true if it burns the first tile of a chain")
                .each("of 3", Start.text("round 12 23;"), left, true, false, false);
        Sentence.moves(32, FIVE, left, true, false, true, false, false);
        refusedWhenOver(32, left);
    }

    private static void moveScore() {
        Sentence.Indexed score = (game, move) -> game.moveScore(move);
        Sentence.of(33, "Returns the score that a move brings")
                .each("of 7", SEVEN, score, 3, 5, 9, 11, 12, 3, 0)
                .each("after a burn", FIVE.then(game -> game.burn(2, true)), score, 3, 5, 20, 6, 0);
        Sentence.of(33, "Returns the score of the tile;")
                .each("of 0 and 24", Start.text("round 00 06 66;"), score, 0, 24, 0);
        Sentence.of(33, "0 for the pass")
                .each("of the second round", SECOND, score, 3, 5, 0)
                .each("of 3", Start.text("round 12 23;pass;"), score, 3, 5, 0);
        Sentence.moves(33, FIVE, score, 3, 5, 5, 6, 0);
        refusedWhenOver(33, score);
    }

    private static void loggedMoveCount() {
        Start.Step count = game -> game.loggedMoveCount();
        Sentence.of(34, "Returns the number of moves in the move log, which contains all moves of the present round "
                + "in their order, also those of the text")
                .tells("new", Start.fresh(), count, 0)
                .tells("no move of the text", SEVEN, count, 0)
                .tells("one of the text", Start.text("round 12 23;pass;"), count, 1)
                .tells("one of the text and one more",
                        Start.text("round 12 23;pass;").then(game -> game.burn(0, true)), count, 2)
                .tells("41 moves", longest(41), count, 41)
                .tells("42 moves, the most", longest(42), count, 42)
                .tells("a refused 43rd", longest(42).trying(game -> game.pass()), count, 42)
                .tells("the next round", Start.text("round 12 23;round 12 23;left 0;next;"), count, 0)
                .tells("the next round by a call",
                        Start.text("round 12 23;round 12 23;left 0;").then(game -> game.startNextRound()), count, 0)
                .tells("the next round's first", Start.text("round 12 23;round 12 23;left 0;next;pass;"), count, 1)
                .tells("undone", SEVEN.then(game -> game.pass(), game -> game.undo()), count, 0)
                .tells("in their order", Start.text("round 12 23 34;pass;right 0;").then(game -> game.burn(0, true)),
                        game -> game.loggedScore(0) + " " + game.loggedScore(1) + " " + game.loggedScore(2), "0 7 3");
    }

    /** The sentences about the index that promises 35 and 36 share. */
    private static void indexOfLog(int promise, Sentence.Indexed call, Object... wants) {
        Start three = Start.text("round 12 23 34,45 56;pass;right 1;").then(game -> game.burn(0, true));
        Sentence.of(promise, "- `index`: index of the move in the log, from 0")
                .each("of 3", three, call, wants)
                .each("of 2", three.then(game -> game.undo()), call, wants[0], wants[1])
                .each("of 1", Start.text("round 12 23 34,45 56;pass;"), call, wants[0]);
        Sentence.of(promise, "if there is no such move in the log")
                .refusesBeyond("of 3", three, call, 3, Sentence.INDEX)
                .refusesBeyond("of 2", three.then(game -> game.undo()), call, 2, Sentence.INDEX)
                .refusesBeyond("of none", SEVEN, call, 0, Sentence.INDEX)
                .refusesBeyond("of the next round", Start.text("round 12 23;round 12 23;left 0;next;"), call, 0,
                        Sentence.INDEX)
                .refusesBeyond("of 41", longest(41), call, 41, Sentence.INDEX)
                .refusesBeyond("of 42", longest(42), call, 42, Sentence.INDEX);
    }

    private static void loggedScore() {
        Sentence.Indexed score = (game, index) -> game.loggedScore(index);
        Sentence.of(35, "Returns the score that a move of the move log brought")
                .each("as it was then", Start.text("round 12 23 34;left 0;left 0;"), score, 3, 5)
                .answers("the first of 42", longest(42), game -> game.loggedScore(0), 0)
                .answers("the last of 42", longest(42), game -> game.loggedScore(41), 7);
        Sentence.of(35, "Returns the score of the tile;")
                .each("of 0 and 24", Start.text("round 00 06 66;left 0;right 0;"), score, 0, 24);
        Sentence.of(35, "0 for a pass")
                .each("of the second round", SECOND.then(game -> game.pass()), score, 0)
                .each("after a burn", Start.text("round 12 23 34;left 0;pass;"), score, 3, 0)
                .each("two passes", Start.text("round 12 23;pass;pass;"), score, 0, 0);
        indexOfLog(35, score, 0, 11, 3);
    }

    private static void loggedChain() {
        Sentence.Indexed chain = (game, index) -> game.loggedChain(index);
        Sentence.of(36, "Returns the chain of a move of the move log")
                .each("of three chains", Start.text("round 12 23,45 56,33 30;left 2;right 0;left 1;"), chain, 2, 0, 1)
                .answers("the first of 42", longest(42), game -> game.loggedChain(0), NONE)
                .answers("the last of 42", longest(42), game -> game.loggedChain(41), 2);
        Sentence.of(36, "Returns the index of the chain;")
                .each("right ends", Start.text("round 12 23,45 56;right 1;right 0;"), chain, 1, 0);
        Sentence.of(36, "NONE for a pass")
                .each("after a burn", Start.text("round 12 23 34;left 0;pass;"), chain, 0, NONE)
                .each("two passes", Start.text("round 12 23;pass;pass;"), chain, NONE, NONE);
        indexOfLog(36, chain, NONE, 1, 0);
    }

    private static void highestEndScore() {
        Start.Step highest = game -> game.highestEndScore();
        Sentence.of(37, "Returns the highest score of a tile that can be burnt now;")
                .tells("a left end", SEVEN, highest, 12)
                .tells("a right end", FIVE, highest, 6)
                .tells("not a tile between", Start.text("round 36 66 61;"), highest, 9)
                .tells("a tile no longer between", Start.text("round 36 66 61;left 0;"), highest, 24)
                .tells("not a single tile", Start.text("round 12 23,66;"), highest, 5)
                .tells("not a tile that has become single", Start.text("round 12 23,66 60;right 1;"), highest, 5)
                .tells("after a pass", Start.text("round 12 23;pass;"), highest, 5)
                .tells("1", Start.text("round 00 01;"), highest, 1);
        Sentence over = Sentence.of(37, "0 if the round is over");
        for (Start start : OVER) {
            over.tells("over", start, highest, 0);
        }
        over.tells("one pass before", Start.text("round 12 23;pass;"), highest, 5)
                .tells("one burn before", Start.text("round 12 23 34;left 0;"), highest, 7);
    }

    private static void burnsLeft() {
        Start.Step burns = game -> game.burnsLeft();
        Sentence.of(38, "Returns the number of burns until every chain has exactly one tile, even if the round is "
                + "over by passes")
                .tells("none in one chain", Start.text("round 11;"), burns, 0)
                .tells("none in three chains", Start.text("round 11,22,33;"), burns, 0)
                .tells("one", Start.text("round 12 23;"), burns, 1)
                .tells("one, burnt", Start.text("round 12 23;left 0;"), burns, 0)
                .tells("one, in three chains", Start.text("round 11,22,33 34;"), burns, 1)
                .tells("one of each", SEVEN, burns, 3)
                .tells("21, the most", Start.text(LONGEST), burns, 21)
                .tells("20", Start.text(LONGEST + "left 0;"), burns, 20)
                .tells("none of 21", longest(42), burns, 0)
                .tells("one of 21", longest(41), burns, 1)
                .tells("over by passes", Start.text("round 12 23 34;pass;pass;"), burns, 2)
                .tells("over by passes, after a burn", Start.text("round 12 23 34;left 0;pass;pass;"), burns, 1)
                .tells("one pass", Start.text("round 12 23 34;pass;"), burns, 2);
    }

    private static void greatestPossibleScore() {
        Sentence.Indexed greatest = (game, player) -> game.greatestPossibleScore(player);
        Sentence.of(39, "Returns the score in the present round that a player would have if from now on this player "
                + "burnt all tiles that can be burnt, so that the tile with the lowest score of each chain remains")
                .each("the lowest on the left", Start.text("round 12 23;"), greatest, 5, 5)
                .each("the lowest on the right", Start.text("round 23 31;"), greatest, 5, 5)
                .each("the lowest between", Start.text("round 56 60 01 16;"), greatest, 24, 24)
                .each("two are the lowest", Start.text("round 05 51 14;"), greatest, 11, 11)
                .each("of each chain", SEVEN, greatest, 5 + 11 + 12, 28)
                .each("one tile", Start.text("round 12 23,66;"), greatest, 5, 5)
                .each("with what each has", Start.text("round 12 23 34;right 0;"), greatest, 7 + 5, 5)
                .each("in the present round alone", Start.text("round 66 61;round 12 23;left 0;next;"), greatest, 5, 5);
        Sentence.of(39, "Returns the score;")
                .each("after a pass", Start.text("round 12 23;pass;"), greatest, 5, 5);
        Sentence over = Sentence.of(39, "the present score if the round is over")
                .each("one pass before", Start.text("round 12 23 34 45;left 0;pass;"), greatest, 3 + 9 + 7, 9 + 7)
                .each("over by passes", Start.text("round 12 23 34 45;left 0;pass;pass;"), greatest, 3, 0)
                .each("over by passes, 1 ahead", Start.text("round 12 23 34 45;pass;left 0;pass;pass;"), greatest, 0, 3)
                .each("burnt down", Start.text("round 12 23;left 0;"), greatest, 3, 0);
        for (Start start : new Start[] {OVER[0], OVER[2], OVER[3]}) {
            over.each("over without a score", start, greatest, 0, 0);
        }
        Sentence.players(39, Start.text("round 12 23 34;right 0;"), greatest, 12, 5);
    }

    private static void canStillWin() {
        Sentence.Indexed can = (game, player) -> game.canStillWin(player);
        Sentence.of(40, "Tells whether a player can still win the present round")
                .each("at first", SEVEN, can, true, true)
                .each("no tile to burn", Start.text("round 11;"), can, false, false)
                .each("a tile of 1", Start.text("round 00 01;"), can, true, true);
        // Player 0 has 3, and player 1 could still have 2, 3 or 4; then the same with a pass before it.
        Sentence higher = Sentence.of(40, "Returns true if greatestPossibleScore(player) is higher than the present "
                + "score of the opponent in this round");
        String[] rounds = {"round 12 26,10 02;", "round 30 06,02 21;", "round 12 26,03 31;"};
        for (int i = 0; i < 3; i++) {
            higher.each("3 against " + (i + 2), Start.text(rounds[i] + "left 0;"), can, true, i == 2)
                    .each((i + 2) + " against 3", Start.text(rounds[i] + "pass;left 0;"), can, i == 2, true);
        }
        higher.each("0 against 0, over", Start.text("round 12 23;pass;pass;"), can, false, false)
                .each("3 against 0, over", Start.text("round 12 23;left 0;"), can, true, false)
                .each("0 against 3, over", Start.text("round 12 23;pass;left 0;"), can, false, true)
                .each("over by passes with much left", Start.text("round 12 26,66 63;left 0;pass;pass;"), can, true,
                        false)
                .each("one pass before", Start.text("round 12 26,66 63;left 0;pass;"), can, true, true)
                .each("in the present round alone", Start.text("round 66 61;round 12 23;left 0;next;"), can, true,
                        true);
        Sentence.players(40, Start.text("round 12 26,10 02;left 0;"), can, true, false);
    }
}
