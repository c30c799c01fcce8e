import java.util.Arrays;

/** The boundaries of promises 20 to 28: tiles and the chains of the present round. */
final class ChainEdges {
    private static final String EIGHT = "00 01 12 23 34 45 56 66";
    // Scores 4, then 3 5, then 0 1 4 7 6 7 11 24.
    private static final Start THREE = Start.text("round 11, 12 23, 00 01 13 34 42 25 56 66;");

    private ChainEdges() {
    }

    static void run() {
        tiles();
        chainsOfRounds();
        chainCount();
        chainLength();
        leftPips();
        rightPips();
        tileScore();
        chainScore();
        remainingScore();
        tilesWith();
        doubleCount();
        lastRound();
    }

    private static Start one(String tiles) {
        return Start.text("round " + tiles + ";");
    }

    private static void tiles() {
        Sentence pips = Sentence.terms("A tile has a left pip value and a right pip value, each 0 to 6");
        for (int value = 0; value <= 6; value++) {
            pips.tells("left " + value, one(value + "3"), game -> game.leftPips(0, 0), value)
                    .tells("right " + value, one("3" + value), game -> game.rightPips(0, 0), value);
        }
        pips.errs("round 73;", DominoChains.INVALID_PIPS, 6).errs("round 37;", DominoChains.INVALID_PIPS, 6);
        Sentence isDouble = Sentence.terms("A tile is a double if both values are equal");
        Sentence score = Sentence.terms("The score of a tile is the sum of its two values;");
        Sentence twice = Sentence.terms("the score of a double is twice this sum");
        for (int left = 0; left <= 6; left++) {
            for (int right = Math.max(0, left - 1); right <= Math.min(6, left + 1); right++) {
                boolean same = left == right;
                String tile = left + "" + right;
                isDouble.answers(tile, one(tile), game -> game.doubleCount(), same ? 1 : 0);
                int points = same ? 2 * (left + right) : left + right;
                (same ? twice : score).answers(tile, one(tile), game -> game.tileScore(0, 0), points);
            }
        }
        score.tells("06", one("06"), game -> game.tileScore(0, 0), 6)
                .tells("60", one("60"), game -> game.tileScore(0, 0), 6);
        twice.tells("burnt", one("66 61"), game -> game.moveScore(0), 24);
    }

    private static void chainsOfRounds() {
        Sentence.terms("A chain is a sequence of 1 to 8 tiles").errs("round ;", DominoChains.SYNTAX_ERROR, 6)
                .loads("round 11;", 1).loads("round 11 12;", 1).loads("round " + EIGHT.substring(3) + ";", 1)
                .loads("round " + EIGHT + ";", 1).errs("round " + EIGHT + " 62;", DominoChains.TOO_MANY, 30)
                .tells("a chain of 8", one(EIGHT), game -> game.chainLength(0), 8);
        Sentence next = Sentence.terms("in which the right value of each tile equals the left value of the next one");
        for (int left = 0; left <= 6; left++) {
            if (left == 2) {
                next.loads("round 12 24;", 1).loads("round 01 12 24;", 1);
            } else {
                next.errs("round 12 " + left + "4;", DominoChains.MISMATCH, 9)
                        .errs("round 01 12 " + left + "4;", DominoChains.MISMATCH, 12);
            }
        }
        Sentence.terms("In a round no two tiles have the same two values, even if the values are swapped")
                .errs("round 11 11;", DominoChains.DUPLICATE_TILE, 9)
                .errs("round 12 21;", DominoChains.DUPLICATE_TILE, 9)
                .errs("round 12,12;", DominoChains.DUPLICATE_TILE, 9)
                .errs("round 12,33,21;", DominoChains.DUPLICATE_TILE, 12)
                .loads("round 12 22;", 1).loads("round 12,13;", 1).loads("round 12;round 12;", 2)
                .loads("round 12;round 21;", 2);
        Sentence.terms("A match has 1 to 4 rounds").errs("", DominoChains.SYNTAX_ERROR, 0).loads("round 11;", 1)
                .loads("round 11;".repeat(2), 2).loads("round 11;".repeat(3), 3).loads("round 11;".repeat(4), 4)
                .errs("round 11;".repeat(5), DominoChains.TOO_MANY, 36);
        Sentence.terms("A round has 1 to 3 chains").errs("round;", DominoChains.SYNTAX_ERROR, 5).loads("round 11;", 1)
                .loads("round 11,22;", 1).loads("round 11,22,33;", 1)
                .errs("round 11,22,33,44;", DominoChains.TOO_MANY, 14);
        Sentence indices = Sentence.terms("Rounds and the chains of a round have indices from 0");
        for (int count = 1; count <= 4; count++) {
            Object[] zeros = {0, 0, 0, 0};
            indices.each("rounds", Start.text("round 11;".repeat(count)), (game, round) -> game.roundScore(round, 0),
                    Arrays.copyOf(zeros, count)).refusesBeyond("rounds", Start.text("round 11;".repeat(count)),
                    (game, round) -> game.roundScore(round, 0), count, Sentence.INDEX);
        }
        for (int count = 1; count <= 3; count++) {
            Object[] values = {1, 2, 3};
            Start start = one("11,22,33".substring(0, 3 * count - 1));
            indices.each("chains", start, (game, chain) -> game.leftPips(chain, 0), Arrays.copyOf(values, count))
                    .refusesBeyond("chains", start, (game, chain) -> game.leftPips(chain, 0), count, Sentence.INDEX);
        }
    }

    private static void chainCount() {
        Start.Step count = game -> game.chainCount();
        Sentence.of(20, "Returns the number of chains")
                .tells("1", one("11"), count, 1)
                .tells("2", one("11,22"), count, 2)
                .tells("3", one("11,22,33"), count, 3)
                .tells("burnt down", Start.text("round 12 23,45 56;left 0;left 1;"), count, 2)
                .tells("of the present round", Start.text("round 11,22;round 11,22,33;"), count, 2)
                .tells("of the next round", Start.text("round 11,22;round 11,22,33;next;"), count, 3)
                .tells("of the last round", Start.text("round 11,22;round 11,22,33;round 44;next;next;"), count, 1);
    }

    private static void chainLength() {
        Sentence.Indexed length = (game, chain) -> game.chainLength(chain);
        Sentence.of(21, "Returns the number of tiles that a chain has now")
                .each("at first", THREE, length, 1, 2, 8)
                .each("after burns", THREE.then(game -> game.burn(1, true), game -> game.burn(2, false)), length, 1,
                        1, 7)
                .each("after a pass", THREE.then(game -> game.pass()), length, 1, 2, 8)
                .each("after undoing", THREE.then(game -> game.burn(2, true), game -> game.undo()), length, 1, 2, 8);
        Sentence least = Sentence.of(21, "Returns the number of tiles, at least 1");
        Start start = one(EIGHT);
        for (int left = 8; left >= 1; left--) {
            least.each(left + " left", start, length, left);
            boolean side = left % 2 == 0;
            start = start.trying(game -> game.burn(0, side));
        }
        least.each("after a refused burn", start, length, 1);
        Sentence.chains(21, THREE, length, 1, 2, 8);
        Sentence.of(21, "if there is no such chain")
                .refusesBeyond("of one", one("11"), length, 1, Sentence.INDEX)
                .refusesBeyond("of two", one("11,22"), length, 2, Sentence.INDEX)
                .refusesBeyond("of the next round", Start.text("round 11,22,33;round 11;next;"), length, 1,
                        Sentence.INDEX);
    }

    /** The sentences about the tile that promises 22 to 24 share. */
    private static void tileIndex(int promise, Sentence.Indexed first, Sentence.Indexed inTwo, Object[] chains,
            Object[] tiles) {
        Sentence.of(promise, "- `chain`: index of the chain")
                .each("chain", THREE, first, chains);
        Sentence.of(promise, "- `tile`: index of the tile among those that the chain has now, from 0")
                .each("tile", THREE, inTwo, tiles)
                .each("tile after a left burn", THREE.then(game -> game.burn(2, true)), inTwo,
                        Arrays.copyOfRange(tiles, 1, 8))
                .each("tile after a right burn", THREE.then(game -> game.burn(2, false)), inTwo,
                        Arrays.copyOf(tiles, 7));
        Start last = THREE;
        for (int burnt = 0; burnt < 7; burnt++) {
            last = last.then(game -> game.burn(2, true));
        }
        Sentence.of(promise, "if there is no such chain or tile")
                .refusesBeyond("chain", THREE, first, 3, Sentence.INDEX)
                .refusesBeyond("chain of one", one("11"), first, 1, Sentence.INDEX)
                .refusesBeyond("tile of 8", THREE, inTwo, 8, Sentence.INDEX)
                .refusesBeyond("tile of 7", THREE.then(game -> game.burn(2, true)), inTwo, 7, Sentence.INDEX)
                .refusesBeyond("tile of 7, right", THREE.then(game -> game.burn(2, false)), inTwo, 7, Sentence.INDEX)
                .refusesBeyond("tile of 1", last, inTwo, 1, Sentence.INDEX);
    }

    private static void leftPips() {
        Sentence.of(22, "Returns the left pip value of a tile")
                .tells("00", THREE, game -> game.leftPips(2, 0), 0)
                .tells("66", THREE, game -> game.leftPips(2, 7), 6);
        Sentence.of(22, "Returns the value")
                .tells("34", THREE, game -> game.leftPips(2, 3), 3);
        tileIndex(22, (game, chain) -> game.leftPips(chain, 0), (game, tile) -> game.leftPips(2, tile),
                new Object[] {1, 1, 0}, new Object[] {0, 0, 1, 3, 4, 2, 5, 6});
        Sentence.of(22, "if there is no such chain or tile")
                .refuses("neither", THREE, game -> game.leftPips(3, 8), Sentence.INDEX)
                .refuses("tile 1 of 1", THREE, game -> game.leftPips(0, 1), Sentence.INDEX)
                .refuses("tile 2 of 2", THREE, game -> game.leftPips(1, 2), Sentence.INDEX);
    }

    private static void rightPips() {
        Sentence.of(23, "Returns the right pip value of a tile")
                .tells("00", THREE, game -> game.rightPips(2, 0), 0)
                .tells("66", THREE, game -> game.rightPips(2, 7), 6);
        Sentence.of(23, "Returns the value")
                .tells("34", THREE, game -> game.rightPips(2, 3), 4);
        tileIndex(23, (game, chain) -> game.rightPips(chain, 0), (game, tile) -> game.rightPips(2, tile),
                new Object[] {1, 2, 0}, new Object[] {0, 1, 3, 4, 2, 5, 6, 6});
        Sentence.of(23, "if there is no such chain or tile")
                .refuses("neither", THREE, game -> game.rightPips(3, 8), Sentence.INDEX)
                .refuses("tile 1 of 1", THREE, game -> game.rightPips(0, 1), Sentence.INDEX)
                .refuses("tile 2 of 2", THREE, game -> game.rightPips(1, 2), Sentence.INDEX);
    }

    private static void tileScore() {
        Sentence.of(24, "Returns the score of a tile")
                .tells("00", THREE, game -> game.tileScore(2, 0), 0)
                .tells("66", THREE, game -> game.tileScore(2, 7), 24);
        Sentence.of(24, "Returns the score")
                .tells("56", THREE, game -> game.tileScore(2, 6), 11);
        tileIndex(24, (game, chain) -> game.tileScore(chain, 0), (game, tile) -> game.tileScore(2, tile),
                new Object[] {4, 3, 0}, new Object[] {0, 1, 4, 7, 6, 7, 11, 24});
        Sentence.of(24, "if there is no such chain or tile")
                .refuses("neither", THREE, game -> game.tileScore(3, 8), Sentence.INDEX)
                .refuses("tile 1 of 1", THREE, game -> game.tileScore(0, 1), Sentence.INDEX)
                .refuses("tile 2 of 2", THREE, game -> game.tileScore(1, 2), Sentence.INDEX);
    }

    private static void chainScore() {
        Sentence.Indexed score = (game, chain) -> game.chainScore(chain);
        Sentence.of(25, "Returns the sum of the scores of all tiles that a chain has now")
                .each("at first", THREE, score, 4, 8, 60)
                .each("after a left burn", THREE.then(game -> game.burn(1, true)), score, 4, 5, 60)
                .each("after a right burn", THREE.then(game -> game.burn(2, false)), score, 4, 8, 36)
                .each("after undoing", THREE.then(game -> game.burn(2, false), game -> game.undo()), score, 4, 8, 60);
        Sentence.of(25, "Returns the sum")
                .each("of 0", one("00"), score, 0)
                .each("of one tile", one("66"), score, 24);
        Sentence.chains(25, THREE, score, 4, 8, 60);
        Sentence.of(25, "if there is no such chain")
                .refusesBeyond("of one", one("11"), score, 1, Sentence.INDEX);
    }

    private static void remainingScore() {
        Start.Step score = game -> game.remainingScore();
        Sentence.of(26, "Returns the sum of the scores of all tiles that the chains have now")
                .tells("0", one("00"), score, 0)
                .tells("1", one("01"), score, 1)
                .tells("of three chains", THREE, score, 72)
                .tells("after a left burn", THREE.then(game -> game.burn(1, true)), score, 69)
                .tells("after a right burn", THREE.then(game -> game.burn(2, false)), score, 48)
                .tells("after a pass", THREE.then(game -> game.pass()), score, 72)
                .tells("over by passes", THREE.then(game -> game.pass(), game -> game.pass()), score, 72)
                .tells("burnt down", Start.text("round 12 23;left 0;"), score, 5)
                .tells("of the present round", Start.text("round 11;round 22;"), score, 4)
                .tells("of the next round", Start.text("round 11;round 22;next;"), score, 8);
    }

    private static void tilesWith() {
        Sentence.Indexed with = (game, pips) -> game.tilesWith(pips);
        Sentence.of(27, "Counts the tiles of all chains now that have a pip value on at least one side")
                .each("on the left", one("06"), with, 1, 0, 0, 0, 0, 0, 1)
                .each("on both sides", one("33"), with, 0, 0, 0, 1, 0, 0, 0)
                .each("of all chains", THREE, with, 2, 4, 4, 3, 2, 2, 2)
                .each("after a burn", THREE.then(game -> game.burn(2, true), game -> game.burn(2, true)), with, 0, 3,
                        4, 3, 2, 2, 2)
                .each("of the next round", Start.text("round 11;round 26;next;"), with, 0, 0, 1, 0, 0, 0, 1);
        Sentence.of(27, "- `pips`: the value, 0 to 6")
                .each("value", one(EIGHT), with, 2, 2, 2, 2, 2, 2, 2);
        Sentence.of(27, "Returns the number of tiles")
                .each("none", one("00"), with, 1, 0, 0, 0, 0, 0, 0);
        Sentence.of(27, "Throws `IllegalArgumentException` if pips is out of range")
                .refusesBeyond("value", THREE, with, 7, Sentence.ARGUMENT);
    }

    private static void doubleCount() {
        Start.Step count = game -> game.doubleCount();
        Sentence.of(28, "Returns the number of doubles that the chains have now")
                .tells("none", one("12 23"), count, 0)
                .tells("one", one("12 22"), count, 1)
                .tells("all seven", one("00 01 11 12 22 23 33,44 45 55,66"), count, 7)
                .tells("of all chains", THREE, count, 3)
                .tells("a double burnt", THREE.then(game -> game.burn(2, true)), count, 2)
                .tells("another tile burnt", THREE.then(game -> game.burn(1, true)), count, 3)
                .tells("undone", THREE.then(game -> game.burn(2, true), game -> game.undo()), count, 3);
    }

    // The last chain of the last round, as far from the first one as a tile can be.
    private static void lastRound() {
        String round = "round 02 24 44 40 05 55 51 14,06 66 61 13 34 45 52 26,00 01 11 12 22 23 33 30;";
        Start last = Start.text("round 11;round 11;round 11;" + round + "next;next;next;");
        Sentence.of(22, "Returns the left pip value of a tile")
                .each("last round", last, (game, tile) -> game.leftPips(2, tile), 0, 0, 1, 1, 2, 2, 3, 3);
        Sentence.of(23, "Returns the right pip value of a tile")
                .each("last round", last, (game, tile) -> game.rightPips(2, tile), 0, 1, 1, 2, 2, 3, 3, 0);
        Sentence.of(24, "Returns the score of a tile")
                .each("last round", last, (game, tile) -> game.tileScore(2, tile), 0, 1, 4, 3, 8, 5, 12, 3);
        Sentence.of(25, "Returns the sum of the scores of all tiles that a chain has now")
                .each("last round", last, (game, chain) -> game.chainScore(chain), 64, 72, 36);
        Sentence.of(26, "Returns the sum of the scores of all tiles that the chains have now")
                .tells("last round", last, game -> game.remainingScore(), 172);
    }
}
