import java.util.NoSuchElementException;

/** The boundaries of promises 41 to 50, and of what the document says of optimal play. */
final class OptimalEdges {
    private static final Start ONE = Start.text("round 11;");
    private static final Start BURNT = Start.text("round 12 23;left 0;");
    private static final Start PASSED = Start.text("round 36 66 61;pass;pass;");
    private static final Start[] OVER = {ONE, BURNT, PASSED, Start.text("round 11,22;round 12 23;"),
        Start.text("round 12 23;pass;pass;")};
    // Scores 3 and 5: the moves are worth 3, 5 and -5, and after a pass 3, 5 and 0.
    private static final Start TWO = Start.text("round 12 23;");
    private static final Start TWO_PASS = Start.text("round 12 23;pass;");
    // Scores 8, 6, 9: the moves are worth -1, 1 and -1.
    private static final Start THREE = Start.text("round 62 24 45;");
    // Scores 9, 24, 7: whoever burns gives 24 away, so the moves are worth -15, -17 and 0.
    private static final Start STUCK = Start.text("round 36 66 61;");
    private static final Start STUCK_PASS = Start.text("round 36 66 61;pass;");
    // Scores 4, 3, 4: all moves are worth 0.
    private static final Start EVEN = Start.text("round 13 30 04;");
    // The most tiles that a round can have; what is due is what the reference answers.
    private static final Start MOST = Start.text("round 20 00 01 16 65 50 06 63,44 46 62 22 21 11 15 53,"
            + "54 41 13 32 24 40 03 33;");
    private static final Start EIGHT = Start.text("round 11,22 23,00 01 13 34 42 25 56 66;");
    private static final Start MANY = Start.text("round 12 23 33, 36 66 61, 44 45 50 06;");

    private OptimalEdges() {
    }

    static void run() {
        differences();
        positions();
        values();
        optimalDifference();
        moveValue();
        optimalMove();
        worstMove();
        optimalMoveCount();
        isPassForced();
        optimalLineLength();
        optimalLineScore();
        chainDifference();
        expectedLead();
        mostTiles();
    }

    private static void whenOver(Sentence sentence, Start.Step step, Object want) {
        for (Start over : OVER) {
            sentence.tells("over", over, step, want);
        }
    }

    private static void refusedWhenOver(Sentence sentence, Start.Step step) {
        for (Start over : OVER) {
            sentence.refuses("over", over, step, NoSuchElementException.class);
        }
        sentence.refuses("over by the call before", TWO_PASS.then(game -> game.pass()), step,
                NoSuchElementException.class);
    }

    private static void differences() {
        Start.Step greedy = game -> game.greedyDifference();
        Start.Step optimal = game -> game.optimalDifference();
        Sentence.terms("The final difference of a round for a player is the sum of the scores that this player gets "
                + "from now on until the round is over, minus the sum of the scores that the opponent gets from now "
                + "on")
                .tells("of 0", STUCK, greedy, 9 - 24)
                .tells("of 1, without what 0 has already", STUCK.then(game -> game.burn(0, true)), greedy, 24)
                .tells("nothing more", PASSED, greedy, 0);
        Sentence.terms("The optimal difference of a position is the final difference for the player to move if both "
                + "players always choose a move that maximizes their own final difference")
                .tells("3 or 5", TWO, optimal, 5)
                .tells("9 and then 8", THREE, optimal, 1)
                .tells("no burn is good", STUCK, optimal, 0)
                .tells("after the burn", STUCK.then(game -> game.burn(0, true)), optimal, 24);
        Sentence zero = Sentence.terms("It is 0 if the round is over")
                .tells("one move before", TWO_PASS, optimal, 5);
        whenOver(zero, optimal, 0);
        zero.tells("after the move", TWO_PASS.then(game -> game.pass()), optimal, 0)
                .tells("one move before, undone", TWO_PASS.then(game -> game.pass(), game -> game.undo()), optimal, 5);
    }

    private static void positions() {
        Sentence.Indexed value = (game, move) -> game.moveValue(move);
        Sentence.terms("A position includes whether the move before it was a pass, because a second pass then ends "
                + "the round")
                .each("no move", TWO, value, 3, 5, -5)
                .each("a pass", TWO_PASS, value, 3, 5, 0)
                .each("a burn", Start.text("round 12 23,66;"), value, 3, 5, -5)
                .each("a burn after a pass", Start.text("round 12 23,66 60;pass;left 1;"), value, 3, 5, -5)
                .each("a pass after a burn", Start.text("round 12 23,66 60;left 1;pass;"), value, 3, 5, 0)
                .each("a pass undone", TWO.then(game -> game.pass(), game -> game.undo()), value, 3, 5, -5)
                .each("a pass restored",
                        TWO_PASS.then(game -> game.save(), game -> game.burn(0, true), game -> game.restore()), value,
                        3, 5, 0)
                .each("two passes of the round before", Start.text("round 12 23;round 12 23;pass;pass;next;"), value,
                        3, 5, -5);
    }

    /** Makes a move by its index. */
    private static Start.Step make(int move) {
        return game -> game.isPass(move) ? game.pass() : (Object) game.burn(game.moveChain(move),
                game.isLeftBurn(move));
    }

    private static void values() {
        Sentence value = Sentence.terms("The value of a move is the score that it brings minus the optimal "
                + "difference of the position after it (for the opponent)");
        Sentence best = Sentence.terms("A move is optimal if no move has a higher value");
        Start manyPass = MANY.then(game -> game.pass());
        for (Start start : new Start[] {TWO, TWO_PASS, THREE, STUCK, STUCK_PASS, EVEN, MANY, manyPass}) {
            int highest = Integer.MIN_VALUE;
            int count = 0;
            for (int move = 0; move < start.game().moveCount(); move++) {
                int index = move;
                int worth = start.game().moveScore(move) - start.then(make(move)).game().optimalDifference();
                value.tells("move " + move, start, game -> game.moveValue(index), worth);
                count = worth > highest ? 1 : worth == highest ? count + 1 : count;
                highest = Math.max(highest, worth);
            }
            int most = highest;
            best.tells("the highest value", start, game -> game.moveValue(game.optimalMove()), most)
                    .tells("the difference", start, game -> game.optimalDifference(), most)
                    .tells("as many as have it", start, game -> game.optimalMoveCount(), count);
        }
    }

    private static void optimalDifference() {
        Start.Step difference = game -> game.optimalDifference();
        Sentence.of(41, "Returns the optimal difference of the position")
                .tells("a burn", TWO, difference, 5)
                .tells("after a pass", TWO_PASS, difference, 5)
                .tells("burns", THREE, difference, 1)
                .tells("nothing but giving away", STUCK, difference, 0)
                .tells("after one pass", STUCK_PASS, difference, 0)
                .tells("over by passes", PASSED, difference, 0)
                .tells("over by burns", BURNT, difference, 0)
                .tells("no burn at all", ONE, difference, 0)
                .tells("even", EVEN, difference, 0)
                .tells("the next round", Start.text("round 12 23;round 66 61;left 0;next;"), difference, 24)
                .tells("the round before, undone", Start.text("round 12 23;round 66 61;")
                        .then(game -> game.burn(0, true), game -> game.startNextRound(),
                                game -> game.optimalDifference(),
                                game -> game.undo(), game -> game.undo()), difference, 5);
    }

    private static void moveValue() {
        Sentence.Indexed value = (game, move) -> game.moveValue(move);
        Sentence.of(42, "Returns the value of a move")
                .each("burns", THREE, value, -1, 1, -1)
                .each("of one burn", TWO, value, 3, 5, -5);
        Sentence.of(42, "Returns the value")
                .each("below 0 and 0", STUCK, value, -15, -17, 0)
                .each("after a pass", STUCK_PASS, value, -15, -17, 0);
        Sentence.moves(42, Start.text("round 12 23,66;"), value, 3, 5, -5);
        Sentence none = Sentence.of(42, "if there is no such move")
                .refusesBeyond("of 7", MANY, value, 7, Sentence.INDEX);
        for (Start over : OVER) {
            none.refusesBeyond("of none", over, value, 0, Sentence.INDEX);
        }
    }

    private static void optimalMove() {
        Start.Step move = game -> game.optimalMove();
        Sentence.of(43, "Returns the first optimal move")
                .tells("the only one", THREE, move, 1)
                .tells("the first of two", Start.text("round 22 26;"), move, 0)
                .tells("the first of three", EVEN, move, 0)
                .tells("the first of two, not the first move", Start.text("round 01 13,22 26;"), move, 2);
        Sentence.of(43, "Returns its index in the order of moves")
                .tells("a right end", TWO, move, 1)
                .tells("the pass", STUCK, move, 2)
                .tells("the first move", Start.text("round 23 31;"), move, 0)
                .tells("a single chain before it", Start.text("round 11,23 31;"), move, 0);
        Sentence none = Sentence.of(43, "Throws `NoSuchElementException` if the round is over")
                .tells("one burn before", TWO, move, 1)
                .tells("one pass before", STUCK_PASS, move, 2);
        refusedWhenOver(none, move);
    }

    private static void worstMove() {
        Start.Step move = game -> game.worstMove();
        Sentence.of(44, "Returns the first move with the lowest value")
                .tells("the first of two", THREE, move, 0)
                .tells("the only one", STUCK, move, 1)
                .tells("the first of three", EVEN, move, 0);
        Sentence.of(44, "Returns its index in the order of moves")
                .tells("the pass", TWO, move, 2)
                .tells("after a pass", TWO_PASS, move, 2)
                .tells("the first move", Start.text("round 16 66 63;"), move, 0);
        Sentence none = Sentence.of(44, "Throws `NoSuchElementException` if the round is over")
                .tells("one burn before", TWO, move, 2)
                .tells("one pass before", STUCK_PASS, move, 1);
        refusedWhenOver(none, move);
    }

    private static void optimalMoveCount() {
        Start.Step count = game -> game.optimalMoveCount();
        Sentence.of(45, "Returns the number of optimal moves;")
                .tells("one", THREE, count, 1)
                .tells("two", Start.text("round 22 26;"), count, 2)
                .tells("all three", EVEN, count, 3)
                .tells("the pass alone", STUCK, count, 1)
                .tells("a pass before it", STUCK_PASS, count, 1);
        Sentence over = Sentence.of(45, "0 if the round is over")
                .tells("one move before", TWO_PASS, count, 1);
        whenOver(over, count, 0);
    }

    private static void isPassForced() {
        Start.Step forced = game -> game.isPassForced();
        Sentence only = Sentence.of(46, "Returns true if the round is not over and the pass is the only optimal move")
                .tells("the only one", STUCK, forced, true)
                .tells("the only one, after a pass", STUCK_PASS, forced, true)
                .tells("one of three", EVEN, forced, false)
                .tells("none of one", THREE, forced, false)
                .tells("none of two", Start.text("round 22 26;"), forced, false)
                .tells("the burn after it", STUCK.then(game -> game.burn(0, true)), forced, false)
                .tells("in two chains", Start.text("round 36 66 61,33;"), forced, true)
                .tells("with one more burn", Start.text("round 36 66 61,33 30;"), forced, false);
        whenOver(only, forced, false);
    }

    private static void optimalLineLength() {
        Start.Step length = game -> game.optimalLineLength();
        Sentence.of(47, "Returns the number of moves of the optimal line")
                .tells("one burn", TWO, length, 1)
                .tells("two burns", THREE, length, 2)
                .tells("two passes", STUCK, length, 2)
                .tells("one pass", STUCK_PASS, length, 1)
                .tells("no burn", ONE, length, 0)
                .tells("over by burns", BURNT, length, 0)
                .tells("over by passes", PASSED, length, 0)
                .tells("from now on", THREE.then(game -> game.burn(0, false)), length, 1);
        Sentence line = Sentence.terms("The optimal line consists of the first optimal move of the position, the "
                + "first optimal move of the position after it, and so on until the round is over");
        for (Start start : new Start[] {TWO, TWO_PASS, THREE, STUCK, STUCK_PASS, EVEN, MANY, ONE, PASSED}) {
            DominoChains played = start.game();
            int before = played.loggedMoveCount();
            while (!played.isRoundOver()) {
                make(played.optimalMove()).on(played);
            }
            int made = played.loggedMoveCount() - before;
            line.tells("its length", start, length, made)
                    .refuses("none behind it", start, game -> game.optimalLineScore(made), Sentence.INDEX);
            for (int i = 0; i < made; i++) {
                int index = i;
                line.tells("move " + i, start, game -> game.optimalLineScore(index), played.loggedScore(before + i));
            }
            if (before == 0) {
                line.answers("its text", start, game -> View.text(game, game.formatOptimalLine()),
                        View.text(played, played.formatLog()));
            }
        }
    }

    private static void optimalLineScore() {
        Sentence.Indexed score = (game, index) -> game.optimalLineScore(index);
        Sentence.of(48, "Returns the score that a move of the optimal line brings")
                .each("two burns", THREE, score, 9, 8);
        Sentence.of(48, "- `index`: index of the move in the line, from 0")
                .each("one burn", TWO, score, 5)
                .each("from now on", THREE.then(game -> game.burn(0, false)), score, 8);
        Sentence.of(48, "Returns the score of the tile;")
                .each("a double", Start.text("round 66 61;"), score, 24);
        Sentence.of(48, "0 for a pass")
                .each("in the second round", Start.text("round 66,55,44;round 36 66 61;next;"), score, 0, 0)
                .each("two passes", STUCK, score, 0, 0)
                .each("one pass", STUCK_PASS, score, 0);
        Sentence none = Sentence.of(48, "Throws `IndexOutOfBoundsException` if the line has no such move")
                .refusesBeyond("of 1", TWO, score, 1, Sentence.INDEX)
                .refusesBeyond("of 2", THREE, score, 2, Sentence.INDEX)
                .refusesBeyond("of two passes", STUCK, score, 2, Sentence.INDEX)
                .refusesBeyond("of one pass", STUCK_PASS, score, 1, Sentence.INDEX);
        for (Start over : OVER) {
            none.refusesBeyond("of none", over, score, 0, Sentence.INDEX);
        }
    }

    private static void chainDifference() {
        Sentence.Indexed difference = (game, chain) -> game.chainDifference(chain);
        Start three = Start.text("round 12 23, 36 66 61, 44;");
        Sentence.of(49, "Returns the optimal difference of a position that has only one chain of the present round, "
                + "with the tiles that this chain has now, and in which no move has been made yet")
                .each("at first", three, difference, 5, 0, 0)
                .each("after a burn", three.then(game -> game.burn(1, true)), difference, 5, 24, 0)
                .each("after the last burn of a chain", three.then(game -> game.burn(0, true)), difference, 0, 0, 0)
                .each("after a pass", three.then(game -> game.pass()), difference, 5, 0, 0)
                .each("over by passes",
                        three.then(game -> game.burn(1, true), game -> game.pass(), game -> game.pass()), difference,
                        5, 24, 0)
                .each("burnt down", BURNT, difference, 0)
                .each("of the next round", Start.text("round 12 23;round 22 24;left 0;next;"), difference, 8)
                .each("undone", three.then(game -> game.burn(1, true), game -> game.undo()), difference, 5, 0, 0);
        Sentence.of(49, "Returns the optimal difference for the player who moves first")
                .each("two", TWO, difference, 5)
                .each("three", THREE, difference, 1)
                .each("1 is to move", Start.text("round 62 24 45;pass;"), difference, 1);
        Sentence.chains(49, three, difference, 5, 0, 0);
        Sentence.of(49, "if there is no such chain")
                .refusesBeyond("of one", ONE, difference, 1, Sentence.INDEX)
                .refusesBeyond("of one, over", BURNT, difference, 1, Sentence.INDEX)
                .refusesBeyond("of the next round", Start.text("round 11,22,33;round 44;next;"), difference, 1,
                        Sentence.INDEX);
    }

    private static void expectedLead() {
        Start.Step lead = game -> game.expectedLead();
        Sentence.of(50, "Returns the score in the present round that the player to move has at the end of the round "
                + "if both players play optimally from now on, minus the score that the opponent has then")
                .tells("at first", THREE, lead, 1)
                .tells("with what the opponent has", THREE.then(game -> game.burn(0, false)), lead, 8 - 9)
                .tells("with what both have", Start.text("round 12 23 34;left 0;left 0;"), lead, 3 - 5)
                .tells("no burn", ONE, lead, 0)
                .tells("over, behind", BURNT, lead, -3)
                .tells("over, ahead", Start.text("round 12 23 34;right 0;left 0;"), lead, 7 - 3)
                .tells("over by passes", Start.text("round 36 66 61;left 0;pass;pass;"), lead, -9)
                .tells("one pass before", Start.text("round 36 66 61;left 0;pass;"), lead, 9 + 24)
                .tells("in the present round alone", Start.text("round 66 61;round 12 23;left 0;next;"), lead, 5);
    }

    private static void mostTiles() {
        Sentence.of(41, "Returns the optimal difference of the position")
                .tells("three chains of 8", MOST, game -> game.optimalDifference(), 10)
                .tells("chains of 1, 2 and 8", EIGHT, game -> game.optimalDifference(), 16);
        Sentence.of(42, "Returns the value of a move")
                .each("three chains of 8", MOST, (game, move) -> game.moveValue(move), -6, 0, 10, -2, 0, 2, -10)
                .each("chains of 1, 2 and 8", EIGHT, (game, move) -> game.moveValue(move), -10, -13, -17, 16, -16);
        Sentence.of(44, "Returns the first move with the lowest value")
                .tells("three chains of 8", MOST, game -> game.worstMove(), 6)
                .tells("chains of 1, 2 and 8", EIGHT, game -> game.worstMove(), 2);
        Sentence.of(48, "Returns the score that a move of the optimal line brings")
                .each("three chains of 8", MOST, (game, index) -> game.optimalLineScore(index),
                        16, 12, 10, 9, 9, 8, 6, 8, 8, 6, 5, 4, 4, 5, 6, 4, 2, 5, 11, 7, 1)
                .each("chains of 1, 2 and 8", EIGHT, (game, index) -> game.optimalLineScore(index),
                        24, 11, 8, 7, 6, 7, 4, 1);
        Sentence.of(48, "if the line has no such move")
                .refusesBeyond("three chains of 8", MOST, (game, index) -> game.optimalLineScore(index), 21,
                        Sentence.INDEX)
                .refusesBeyond("chains of 1, 2 and 8", EIGHT, (game, index) -> game.optimalLineScore(index), 8,
                        Sentence.INDEX);
        Sentence.of(49, "Returns the optimal difference for the player who moves first")
                .each("three chains of 8", MOST, (game, chain) -> game.chainDifference(chain), 5, 12, 7)
                .each("chains of 1, 2 and 8", EIGHT, (game, chain) -> game.chainDifference(chain), 0, 8, 18);
    }
}
