import java.util.NoSuchElementException;

/** The boundaries of promises 51 to 54: the greedy player. */
final class GreedyEdges {
    private static final Start[] OVER = {Start.text("round 11;"), Start.text("round 12 23;left 0;"),
        Start.text("round 36 66 61;pass;pass;"), Start.text("round 11,22;round 12 23;"),
        Start.text("round 12 23;pass;pass;")};
    private static final Start TWO = Start.text("round 12 23;");
    private static final Start TWO_PASS = Start.text("round 12 23;pass;");
    // Scores 9, 24, 7: whoever burns gives 24 away.
    private static final Start STUCK = Start.text("round 36 66 61;");
    private static final Start STUCK_PASS = Start.text("round 36 66 61;pass;");
    // The most tiles that a round can have; what is due is what the reference answers.
    private static final Start MOST = Start.text("round 00 01 11 12 22 23 33 30, 02 24 44 40 05 55 51 14, "
            + "06 66 61 13 34 45 52 26;");
    private static final Start LATE = STUCK.then(game -> game.burn(0, true));

    private GreedyEdges() {
    }

    static void run() {
        moves();
        greedyMove();
        greedyDifference();
        differenceAgainstGreedy();
        greedyAgainstBest();
        equalEnds();
        roundBefore();
    }

    private static void whenOver(Sentence sentence, Start.Step step) {
        for (Start over : OVER) {
            sentence.tells("over", over, step, 0);
        }
        sentence.tells("over by the call before", STUCK_PASS.then(game -> game.pass()), step, 0)
                .tells("over by the burn before", LATE.then(game -> game.burn(0, true)), step, 0);
    }

    private static void moves() {
        Start.Step move = game -> game.greedyMove();
        Sentence.terms("A greedy player burns the tile with the highest score among all tiles that can be burnt;")
                .tells("5 before 3", TWO, move, 1)
                .tells("9 before 7, with 24 between", STUCK, move, 0)
                .tells("24 before 7", LATE, move, 0)
                .tells("not a single tile", Start.text("round 12 23,66;"), move, 1)
                .tells("the highest of three chains", Start.text("round 12 23,33 36,45 56;"), move, 2)
                .tells("1 more", Start.text("round 13 34,26 61;"), move, 2)
                .tells("1 more in the first chain", Start.text("round 26 61,34 45;"), move, 3)
                .tells("one before 0", Start.text("round 00 01;"), move, 1);
        Sentence.terms("among several such moves the player chooses the first one in the order of moves")
                .tells("two of a chain", Start.text("round 14 40 05;"), move, 0)
                .tells("of two chains", Start.text("round 12 26,35 51;"), move, 1)
                .tells("of the second and the third chain", Start.text("round 01 12,34 40,52 20;"), move, 2);
        Sentence never = Sentence.terms("A greedy player never passes");
        for (Start start : new Start[] {TWO, TWO_PASS, STUCK, STUCK_PASS, LATE}) {
            never.tells("a burn", start, game -> game.isPass(game.greedyMove()), false);
        }
        Sentence.terms("(A round that is not over always allows a burn.)")
                .tells("one burn", TWO, game -> game.moveCount(), 3)
                .tells("after a pass", TWO_PASS, game -> game.isLeftBurn(0), true)
                .tells("no burn", OVER[0], game -> game.isRoundOver(), true)
                .tells("the last of three chains", Start.text("round 11,22,33 34;pass;"), game -> game.moveChain(0), 2);
    }

    private static void greedyMove() {
        Start.Step move = game -> game.greedyMove();
        Sentence.of(51, "Returns the move of a greedy player")
                .tells("a right end", TWO, move, 1)
                .tells("a left end", LATE, move, 0)
                .tells("after a pass", TWO_PASS, move, 1);
        Sentence.of(51, "Returns its index in the order of moves")
                .tells("past a single chain", Start.text("round 11,22,34 45;"), move, 1)
                .tells("the third of six", Start.text("round 12 23,33 30,45 56;"), move, 2)
                .tells("the last of six", Start.text("round 12 23,34 46,45 56;"), move, 5)
                .tells("three chains of 8", MOST, move, 5);
        Sentence none = Sentence.of(51, "Throws `NoSuchElementException` if the round is over")
                .tells("one move before", TWO_PASS, move, 1);
        for (Start over : OVER) {
            none.refuses("over", over, move, NoSuchElementException.class);
        }
        none.refuses("over by the call before", TWO_PASS.then(game -> game.pass()), move, NoSuchElementException.class)
                .refuses("over by the burn before", TWO.then(game -> game.burn(0, true)), move,
                        NoSuchElementException.class);
    }

    private static void greedyDifference() {
        Start.Step difference = game -> game.greedyDifference();
        Sentence.of(52, "Returns the final difference for the player to move if both players are greedy from now on;")
                .tells("one burn", TWO, difference, 5)
                .tells("two burns", STUCK, difference, 9 - 24)
                .tells("a pass before it", STUCK_PASS, difference, 9 - 24)
                .tells("the last burn", LATE, difference, 24)
                .tells("three chains of 8", MOST, difference, -28)
                .tells("what both have does not count", Start.text("round 12 23 36 66;left 0;left 0;"), difference, 24)
                .tells("without the round before", Start.text("round 66 61;round 12 23;left 0;next;"), difference, 5);
        whenOver(Sentence.of(52, "0 if the round is over"), difference);
    }

    private static void differenceAgainstGreedy() {
        Start.Step difference = game -> game.differenceAgainstGreedy();
        Sentence.of(53, "Returns the highest final difference that the player to move can reach, also by passing, "
                + "if the opponent is greedy;")
                .tells("one burn", TWO, difference, 5)
                .tells("one burn after a pass", TWO_PASS, difference, 5)
                .tells("by passing", STUCK, difference, 24 - 9)
                .tells("a pass would end the round", STUCK_PASS, difference, 0)
                .tells("a pass undone", STUCK.then(game -> game.pass(), game -> game.undo()), difference, 24 - 9)
                .tells("a burn after the pass", Start.text("round 36 66 61,12 23;pass;right 1;"), difference, 24 - 9)
                .tells("two passes of the round before", Start.text("round 12 23;round 36 66 61;pass;pass;next;"),
                        difference, 24 - 9)
                .tells("three chains of 8", MOST, difference, 57)
                .tells("the last burn", LATE, difference, 24);
        whenOver(Sentence.of(53, "0 if the round is over"), difference);
    }

    private static void greedyAgainstBest() {
        Start.Step difference = game -> game.greedyAgainstBest();
        Sentence.of(54, "Returns the final difference for the player to move if this player is greedy from now on "
                + "and the opponent reaches the highest final difference that is possible against a greedy player;")
                .tells("one burn", TWO, difference, 5)
                .tells("one burn after a pass", TWO_PASS, difference, 5)
                .tells("the greedy player does not pass", STUCK, difference, 9 - 24)
                .tells("nor after a pass", STUCK_PASS, difference, 9 - 24)
                .tells("the last burn", LATE, difference, 24)
                .tells("three chains of 8", MOST, difference, -46)
                .tells("the opponent burns all along", Start.text("round 12 23,36 66 61;"), difference, 9 - 24 + 5)
                .tells("the opponent passes", Start.text("round 36 66 61,55 50;"), difference, 20 + 9 - 24);
        whenOver(Sentence.of(54, "0 if the round is over"), difference);
    }

    // Which of two equal ends the greedy player burns makes a difference here; due is the reference's answer.
    private static void equalEnds() {
        Sentence.terms("among several such moves the player chooses the first one in the order of moves")
                .tells("left ends of two chains", Start.text("round 52 22 23 31,16 60;"),
                        game -> game.greedyAgainstBest(), 1)
                .tells("a right end and a left end", Start.text("round 62 24,53 36 61 15;"),
                        game -> game.greedyAgainstBest(), 1)
                .tells("both ends of a chain", Start.text("round 14 44 43 30 02 23;"),
                        game -> game.greedyAgainstBest(), -6)
                .tells("both ends of a chain that is ahead", Start.text("round 51 10 02 23 34 42;"),
                        game -> game.greedyAgainstBest(), 4);
    }

    // What was found out for a round may not be told of the next one, nor the other way round.
    private static void roundBefore() {
        Start two = Start.text("round 12 23;round 36 66 61;");
        Start.Step ask = game -> game.differenceAgainstGreedy();
        Start.Step burn = game -> game.burn(0, true);
        Start next = two.then(ask, burn, game -> game.startNextRound());
        Sentence.of(53, "if the opponent is greedy;")
                .tells("the round before", two, ask, 5)
                .tells("the next round", next, ask, 24 - 9)
                .tells("the round before, undone", next.then(ask, game -> game.undo(), game -> game.undo()), ask, 5);
        Sentence.of(54, "reaches the highest final difference that is possible against a greedy player;")
                .tells("the next round", next, game -> game.greedyAgainstBest(), 9 - 24);
    }
}
