/** The boundaries of promises 55 to 61: edits, undoing and the saved state; and of exceptions. */
final class EditEdges {
    // Scores 3 5 7, then 9 11, then 16; two more rounds follow.
    private static final Start GAME = Start.text("round 12 23 34, 45 56, 44;round 12 23;round 66 61;");
    private static final Start OVER = GAME.then(game -> game.pass(), game -> game.pass());
    private static final Start LAST = Start.text("round 11;round 12 23;next;");
    private static final Start.Step LEFT = game -> game.burn(0, true);
    private static final Start.Step PASS = game -> game.pass();
    private static final Start.Step NEXT = game -> game.startNextRound();
    private static final Start.Step UNDO = game -> game.undo();
    private static final Start.Step SAVE = game -> game.save();
    private static final Start.Step RESTORE = game -> game.restore();

    private EditEdges() {
    }

    static void run() {
        edits();
        editsKept();
        whatUndoingRestores();
        exceptions();
        burn();
        pass();
        playOptimally();
        startNextRound();
        undo();
        save();
        restore();
        calls512();
    }

    private static Start.Step play(int most) {
        return game -> game.playOptimally(most);
    }

    private static String log(DominoChains game) {
        return View.text(game, game.formatLog());
    }

    /** Two ways lead to the same game, but for the edits that can be undone. */
    private static void sameState(Sentence sentence, String name, Start got, Start want) {
        sentence.same(name, View.state(got.game()), View.state(want.game()));
    }

    private static void edits() {
        Sentence edits = Sentence.terms("The methods burn, pass, startNextRound, playOptimally and restore are edits");
        Start saved = GAME.then(SAVE);
        Start[] before = {GAME, GAME, OVER, GAME, saved};
        Start.Step[] steps = {LEFT, PASS, NEXT, play(1), RESTORE};
        String[] names = {"burn", "pass", "startNextRound", "playOptimally", "restore"};
        for (int i = 0; i < steps.length; i++) {
            edits.answers(names[i], before[i].then(steps[i]), UNDO, i == 2 ? 2 : 0);
            sameState(edits, names[i] + " undone", before[i].then(steps[i], UNDO), before[i]);
        }
        Start.Step[] others = {SAVE, game -> game.formatLog(), game -> game.formatChain(0),
                game -> game.formatOptimalLine(),
            game -> game.append(0, 0, 0, 0, 0), game -> game.optimalDifference(), game -> game.optimalLineLength(),
            game -> game.greedyDifference(), game -> game.differenceAgainstGreedy()};
        for (int i = 0; i < others.length; i++) {
            edits.answers("no edit " + i, GAME.then(others[i]), game -> Check.outcome(() -> game.undo()),
                    "throws IllegalStateException");
        }
        edits.answers("undo is none", GAME.then(PASS, LEFT, UNDO), UNDO, 0);
        Sentence can = Sentence.terms("An edit that does not throw an exception can be undone")
                .answers("one edit", GAME.then(LEFT), UNDO, 0);
        Start.Step[] refused = {game -> game.burn(3, true), game -> game.burn(2, true), NEXT, play(0), play(31),
                RESTORE};
        for (int i = 0; i < refused.length; i++) {
            can.refuses("refused edit " + i, GAME.trying(refused[i]), UNDO, Sentence.STATE)
                    .answers("refused edit " + i + " behind another one", GAME.then(LEFT).trying(refused[i]), UNDO, 0);
        }
        can.answers("a refused pass", OVER.trying(PASS), UNDO, 1).answers("a refused burn", OVER.trying(LEFT), UNDO, 1);
    }

    /** A game with so many edits: a pass, a burn of each chain, a pass and so on. */
    private static Start edited(int edits) {
        Start start = Start.text("round 00 01 12 23 34 45 56 66, 11 13 35 50 02 22 24 46, 03 33 36 62 25 55 51 14;");
        for (int i = 0; i < edits; i++) {
            int edit = i;
            start = start.then(game -> edit % 4 == 0 ? (Object) game.pass() : game.burn(edit % 4 - 1, edit % 3 == 0));
        }
        return start;
    }

    private static void editsKept() {
        Sentence kept = Sentence.terms("The 8 latest edits are kept for this");
        for (int edits : new int[] {0, 1, 7, 8, 9, 10, 15, 16, 17, 18}) {
            Start start = edited(edits);
            int most = Math.min(edits, 8);
            for (int undone = 1; undone <= most; undone++) {
                kept.answers("undo " + undone + " of " + edits, start, UNDO, most - undone);
                start = start.then(UNDO);
                sameState(kept, undone + " of " + edits + " undone", start, edited(edits - undone));
            }
            kept.refuses("one undo more than " + edits, start, UNDO, Sentence.STATE);
            sameState(kept, "after one undo more than " + edits, start.trying(UNDO), edited(edits - most));
        }
        // 18 edits, of which 5 are undone, so that 3 are kept; then 4, 5 and 6 other ones.
        for (int more = 4; more <= 6; more++) {
            Start start = edited(18).then(UNDO, UNDO, UNDO, UNDO, UNDO);
            for (int i = 0; i < more; i++) {
                int chain = i % 3;
                start = start.then(game -> game.burn(chain, false));
            }
            int most = Math.min(3 + more, 8);
            for (int undone = 1; undone <= most; undone++) {
                kept.answers("undo " + undone + " of 3 and " + more, start, UNDO, most - undone);
                start = start.then(UNDO);
                if (undone >= more) {
                    sameState(kept, undone + " of 3 and " + more + " undone", start, edited(13 + more - undone));
                }
            }
            kept.refuses("one undo more than 3 and " + more, start, UNDO, Sentence.STATE);
        }
    }

    private static void whatUndoingRestores() {
        Sentence restores = Sentence.terms("Undoing restores the round, the chains, all scores, the player to move, "
                + "the results of the rounds and the move log");
        Start late = GAME.then(LEFT, PASS);
        Start end = Start.text("round 12 23;round 12 23;");
        sameState(restores, "a burn", late.then(LEFT, UNDO), late);
        sameState(restores, "the burn that ends the round", end.then(LEFT, UNDO), end);
        sameState(restores, "the burn that ends the match", LAST.then(LEFT, UNDO), LAST);
        sameState(restores, "a first pass", GAME.then(LEFT, PASS, UNDO), GAME.then(LEFT));
        sameState(restores, "a second pass", late.then(PASS, UNDO), late);
        sameState(restores, "a new round", OVER.then(NEXT, UNDO), OVER);
        sameState(restores, "a new round after a won one", end.then(LEFT, NEXT, UNDO), end.then(LEFT));
        sameState(restores, "a move of a new round", end.then(LEFT, NEXT, LEFT, UNDO), end.then(LEFT, NEXT));
        sameState(restores, "a play to the end", late.then(play(30), UNDO), late);
        sameState(restores, "a play of no move", OVER.then(play(30), UNDO), OVER);
        sameState(restores, "a state of another round", GAME.then(SAVE, PASS, PASS, NEXT, LEFT, RESTORE, UNDO),
                GAME.then(PASS, PASS, NEXT, LEFT));
        Start.Step[] others = {SAVE, game -> game.formatChain(0), LEFT};
        Start saved = GAME.then(others).typing("round 17;").trying(game -> game.load()).typing("round 12 23;");
        Sentence leaves = Sentence.terms("It does not change the saved state, the input buffer, the parse error or "
                + "the formatted text")
                .answers("saved state", saved.then(UNDO), RESTORE, 0)
                .answers("a state saved after the edit", GAME.then(LEFT, SAVE, UNDO), RESTORE, 1)
                .answers("no saved state", GAME.then(LEFT, UNDO), game -> Check.outcome(() -> game.restore()),
                        "throws IllegalStateException")
                .answers("length of the input buffer", saved.then(UNDO), game -> game.append(0, 0, 0, 0, 0), 32)
                .answers("empty input buffer", GAME.then(LEFT, UNDO), game -> game.append(0, 0, 0, 0, 0), 20)
                .answers("input buffer", saved.then(UNDO), game -> game.load(), 1)
                .answers("kind of the error", saved.then(UNDO), game -> game.errorKind(), DominoChains.INVALID_PIPS)
                .answers("position of the error", saved.then(UNDO), game -> game.errorPosition(), 6)
                .answers("formatted text", saved.then(UNDO), game -> View.text(game, 8), "12-23-34")
                .answers("a text formatted after the edit", GAME.then(LEFT, game -> game.formatChain(0), UNDO),
                        game -> View.text(game, 5), "23-34");
        leaves.refuses("the end of the formatted text", saved.then(UNDO), game -> game.formattedCharacter(8),
                Sentence.INDEX);
    }

    private static void exceptions() {
        Sentence.terms("If several exceptions apply to a call of a method, the one that is listed first in its "
                + "throws clause is thrown")
                .refuses("no such chain and over", OVER, game -> game.burn(3, true), Sentence.INDEX)
                .refuses("no such chain below 0 and over", OVER, game -> game.burn(-1, false), Sentence.INDEX)
                .refuses("a chain of one tile and over", OVER, game -> game.burn(2, true), Sentence.STATE)
                .refuses("over alone", OVER, LEFT, Sentence.STATE)
                .refuses("no such chain alone", GAME, game -> game.burn(3, true), Sentence.INDEX);
        Start full = GAME.then(LEFT, SAVE, game -> game.formatChain(1)).typing("round 12;" + " ".repeat(491));
        Sentence.terms("A method that throws an exception changes nothing, unless its description says otherwise")
                .refuses("append", full, game -> game.append(0, 0, 0, 0, 0), Sentence.STATE)
                .refuses("truncate", full, game -> {
                    game.truncate(501);
                    return "done";
                }, Sentence.ARGUMENT)
                .refuses("burn", full, game -> game.burn(2, true), Sentence.STATE)
                .refuses("burn of no chain", full, game -> game.burn(3, true), Sentence.INDEX)
                .refuses("playOptimally", full, play(31), Sentence.ARGUMENT)
                .refuses("startNextRound", full, NEXT, Sentence.STATE)
                .refuses("restore", GAME, RESTORE, Sentence.STATE)
                .refuses("undo", GAME, UNDO, Sentence.STATE)
                .refuses("pass", OVER, PASS, Sentence.STATE)
                .refuses("formatChain", full, game -> game.formatChain(3), Sentence.INDEX)
                .refuses("tilesWith", full, game -> game.tilesWith(7), Sentence.ARGUMENT)
                .answers("load empties the buffer", GAME.typing("x").trying(game -> game.load()),
                        game -> game.append(0, 0, 0, 0, 0), 20);
        Sentence.terms("A player, round, chain, tile, move or index that does not exist causes an "
                + "IndexOutOfBoundsException")
                .refusesBeyond("player", GAME, (game, player) -> game.totalScore(player), 2, Sentence.INDEX)
                .refusesBeyond("round", GAME, (game, round) -> game.roundWinner(round), 3, Sentence.INDEX)
                .refusesBeyond("chain", GAME, (game, chain) -> game.chainLength(chain), 3, Sentence.INDEX)
                .refusesBeyond("tile", GAME, (game, tile) -> game.tileScore(0, tile), 3, Sentence.INDEX)
                .refusesBeyond("move", GAME, (game, move) -> game.moveScore(move), 5, Sentence.INDEX)
                .refusesBeyond("index of the log", GAME.then(PASS), (game, index) -> game.loggedScore(index), 1,
                        Sentence.INDEX)
                .refusesBeyond("index of the text", GAME, (game, index) -> game.formattedCharacter(index), 0,
                        Sentence.INDEX);
    }

    private static void burn() {
        Sentence.of(55, "Burns a tile")
                .answers("left", GAME.then(LEFT), game -> View.text(game, game.formatChain(0)), "23-34")
                .answers("right", GAME.then(game -> game.burn(0, false)),
                        game -> View.text(game, game.formatChain(0)), "12-23")
                .answers("one more", GAME.then(LEFT, LEFT), game -> View.text(game, game.formatChain(0)), "34");
        Sentence.of(55, "- `chain`: index of the chain")
                .answers("0", GAME, game -> game.burn(0, true), 3)
                .answers("1", GAME, game -> game.burn(1, true), 9)
                .answers("2, the last", Start.text("round 11,22,33 34;"), game -> game.burn(2, true), 12);
        Sentence.of(55, "- `left`: true for the first tile of the chain, false for the last one")
                .answers("true", GAME, game -> game.burn(1, true), 9)
                .answers("false", GAME, game -> game.burn(1, false), 11)
                .answers("true, two tiles", GAME.then(LEFT), game -> game.burn(0, true), 5)
                .answers("false, two tiles", GAME.then(LEFT), game -> game.burn(0, false), 7);
        Sentence.of(55, "Returns the score of the tile")
                .answers("0", Start.text("round 00 01;"), LEFT, 0)
                .answers("1", Start.text("round 01 11;"), LEFT, 1)
                .answers("24", Start.text("round 66 61;"), LEFT, 24);
        Sentence none = Sentence.of(55, "Throws `IndexOutOfBoundsException` if there is no such chain");
        for (Start start : new Start[] {GAME, OVER}) {
            none.refusesBeyond("left of 3", start, (game, chain) -> game.burn(chain, true), 3, Sentence.INDEX)
                    .refusesBeyond("right of 3", start, (game, chain) -> game.burn(chain, false), 3, Sentence.INDEX);
        }
        none.refusesBeyond("of 1", LAST, (game, chain) -> game.burn(chain, true), 1, Sentence.INDEX)
                .refusesBeyond("of 2", Start.fresh(), (game, chain) -> game.burn(chain, false), 2, Sentence.INDEX);
        Start one = LAST.then(LEFT);
        Sentence.of(55, "Throws `IllegalStateException` if the round is over, or the chain has one tile")
                .refuses("over by passes", OVER, game -> game.burn(0, true), Sentence.STATE)
                .refuses("over by passes, right", OVER, game -> game.burn(1, false), Sentence.STATE)
                .answers("one pass before", GAME.then(PASS), LEFT, 3)
                .refuses("over by a burn", one, LEFT, Sentence.STATE)
                .refuses("over as it begins", Start.text("round 11;"), LEFT, Sentence.STATE)
                .refuses("one tile from the first", GAME, game -> game.burn(2, true), Sentence.STATE)
                .refuses("one tile from the first, right", GAME, game -> game.burn(2, false), Sentence.STATE)
                .answers("two tiles", GAME.then(LEFT), LEFT, 5)
                .refuses("one tile", GAME.then(LEFT, LEFT), LEFT, Sentence.STATE)
                .refuses("one tile, right", GAME.then(LEFT, LEFT), game -> game.burn(0, false), Sentence.STATE)
                .answers("two tiles again", GAME.then(LEFT, LEFT, UNDO), LEFT, 5);
    }

    private static void pass() {
        Sentence.of(56, "Passes")
                .answers("the player", GAME.then(PASS), game -> game.playerToMove(), 1)
                .answers("the passes of 0", GAME.then(PASS), game -> game.passes(0), 1)
                .answers("the log", GAME.then(PASS), EditEdges::log, "P")
                .answers("the chains", GAME.then(PASS), game -> game.remainingScore(), 51);
        Sentence.of(56, "Returns true if the round is over by this")
                .answers("first", GAME, PASS, false)
                .answers("second", GAME.then(PASS), PASS, true)
                .answers("after a burn", GAME.then(PASS, LEFT), PASS, false)
                .answers("second after a burn", GAME.then(PASS, LEFT, PASS), PASS, true)
                .answers("first of a new round", OVER.then(NEXT), PASS, false)
                .answers("second of a new round", OVER.then(NEXT, PASS), PASS, true)
                .answers("second, the first of the text", Start.text("round 12 23;pass;"), PASS, true)
                .answers("first again", GAME.then(PASS, UNDO), PASS, false);
        Sentence.of(56, "Throws `IllegalStateException` if the round is over already")
                .answers("one pass", GAME.then(PASS), PASS, true)
                .refuses("two passes", OVER, PASS, Sentence.STATE)
                .refuses("burnt down", LAST.then(LEFT), PASS, Sentence.STATE)
                .refuses("burnt down after a pass", LAST.then(PASS, LEFT), PASS, Sentence.STATE)
                .refuses("over as it begins", Start.text("round 11;"), PASS, Sentence.STATE)
                .answers("over no more", OVER.then(UNDO), PASS, true);
    }

    private static void playOptimally() {
        // The optimal line is R0 L0, with 9 and 8.
        Start three = Start.text("round 62 24 45;");
        Start stuck = Start.text("round 36 66 61;");
        Sentence.of(57, "Makes optimal moves, each time the first optimal one, until the round is over, but not "
                + "more than a given number")
                .answers("one less than the line", three.then(play(1)), EditEdges::log, "R0")
                .answers("the line", three.then(play(2)), EditEdges::log, "R0 L0")
                .answers("one more than the line", three.then(play(3)), EditEdges::log, "R0 L0")
                .answers("30", three.then(play(30)), EditEdges::log, "R0 L0")
                .answers("the first of two", Start.text("round 22 26;").then(play(1)), EditEdges::log, "L0")
                .answers("the first of three", Start.text("round 13 30 04;").then(play(1)), EditEdges::log, "L0")
                .answers("passes", stuck.then(play(30)), EditEdges::log, "P P")
                .answers("one pass", stuck.then(play(1)), EditEdges::log, "P")
                .answers("one pass more", stuck.then(PASS, play(30)), EditEdges::log, "P P");
        Sentence most = Sentence.of(57, "- `most`: the greatest number of moves, 1 to 30")
                .answers("1", three, play(1), 1)
                .answers("2", three, play(2), 2)
                .answers("29", three, play(29), 2)
                .answers("30", three, play(30), 2);
        // A round with the most tiles, of which both players burn all that can be burnt.
        Start longest = Start.text("round 20 00 01 16 65 50 06 63,44 46 62 22 21 11 15 53,54 41 13 32 24 40 03 33;");
        most.answers("20 of 21", longest, play(20), 20).answers("21 of 21", longest, play(21), 21)
                .answers("22 of 21", longest, play(22), 21)
                .answers("30 of 21", longest, play(30), 21);
        Sentence.of(57, "Returns the number of moves that were made, 0 if the round is over already (this is an "
                + "edit, too)")
                .answers("one move left", three.then(play(1)), play(30), 1)
                .answers("no move left", three.then(play(2)), play(1), 0)
                .answers("over by passes", OVER, play(30), 0)
                .answers("over as it begins", Start.text("round 11;"), play(1), 0)
                .answers("no move, undone", Start.text("round 11;").then(play(1)), UNDO, 0)
                .answers("no move behind an edit, undone", LAST.then(LEFT, play(1)), UNDO, 1)
                .answers("many moves are one edit", three.then(play(2)), UNDO, 0)
                .answers("nine plays of no move",
                        OVER.then(play(1), play(1), play(1), play(1), play(1), play(1), play(1), play(1), play(1)),
                        UNDO, 7);
        Sentence.of(57, "Throws `IllegalArgumentException` if most is out of range")
                .refuses("0", three, play(0), Sentence.ARGUMENT)
                .answers("1", three, play(1), 1)
                .answers("30", three, play(30), 2)
                .refuses("31", three, play(31), Sentence.ARGUMENT)
                .refusesBeyond("not 0 to 30", three, (game, number) -> game.playOptimally(number), 31,
                        Sentence.ARGUMENT)
                .refuses("0, over", OVER, play(0), Sentence.ARGUMENT)
                .refuses("31, over", OVER, play(31), Sentence.ARGUMENT);
    }

    private static void startNextRound() {
        Start single = Start.text("round 11;round 22;round 33;round 44;");
        Sentence.of(58, "Starts the next round")
                .answers("the round", OVER.then(NEXT), game -> game.currentRound(), 1)
                .answers("its chains", OVER.then(NEXT), game -> View.text(game, game.formatChain(0)), "12-23")
                .answers("not over", OVER.then(NEXT), game -> game.isRoundOver(), false)
                .answers("over as it begins", single.then(NEXT), game -> game.isRoundOver(), true);
        Sentence.of(58, "The move log is empty then")
                .answers("before", OVER, game -> game.loggedMoveCount(), 2)
                .answers("after", OVER.then(NEXT), game -> game.loggedMoveCount(), 0)
                .refuses("no move", OVER.then(NEXT), game -> game.loggedScore(0), Sentence.INDEX)
                .answers("its first move", OVER.then(NEXT, PASS), game -> game.loggedMoveCount(), 1)
                .answers("undone", OVER.then(NEXT, UNDO), game -> game.loggedMoveCount(), 2);
        Sentence.of(58, "Returns the index of the round")
                .answers("1", single, NEXT, 1)
                .answers("2", single.then(NEXT), NEXT, 2)
                .answers("3", single.then(NEXT, NEXT), NEXT, 3)
                .answers("1 again", single.then(NEXT, UNDO), NEXT, 1);
        Sentence.of(58, "Throws `IllegalStateException` if the present round is not over, or is the last one")
                .refuses("no move", GAME, NEXT, Sentence.STATE)
                .refuses("one pass", GAME.then(PASS), NEXT, Sentence.STATE)
                .answers("two passes", OVER, NEXT, 1)
                .refuses("one burn before the end", Start.text("round 12 23;round 11;"), NEXT, Sentence.STATE)
                .answers("the last burn", Start.text("round 12 23;round 11;left 0;"), NEXT, 1)
                .refuses("the next is not over", OVER.then(NEXT), NEXT, Sentence.STATE)
                .refuses("the last, not over", LAST, NEXT, Sentence.STATE)
                .refuses("the last, over", LAST.then(LEFT), NEXT, Sentence.STATE)
                .refuses("the fourth", single.then(NEXT, NEXT, NEXT), NEXT, Sentence.STATE)
                .refuses("the only one", Start.text("round 11;"), NEXT, Sentence.STATE);
    }

    private static void undo() {
        Sentence latest = Sentence.of(59, "Undoes the latest edit that has not been undone");
        sameState(latest, "one of two", GAME.then(LEFT, PASS, UNDO), GAME.then(LEFT));
        sameState(latest, "two of two", GAME.then(LEFT, PASS, UNDO, UNDO), GAME);
        sameState(latest, "one of two, then another, then two", GAME.then(LEFT, PASS, UNDO, LEFT, UNDO, UNDO), GAME);
        sameState(latest, "one of two, then another, then one", GAME.then(LEFT, PASS, UNDO, LEFT, UNDO),
                GAME.then(LEFT));
        sameState(latest, "a refused edit between", GAME.then(LEFT).trying(RESTORE).then(UNDO), GAME);
        Sentence count = Sentence.of(59, "Returns the number of edits that can still be undone");
        for (int edits = 1; edits <= 10; edits++) {
            count.answers("of " + edits, edited(edits), UNDO, Math.min(edits, 8) - 1);
        }
        count.answers("of one and another one", GAME.then(LEFT, UNDO, PASS), UNDO, 0)
                .answers("of two, after an undo", GAME.then(LEFT, PASS, UNDO), UNDO, 0);
        Sentence.of(59, "Throws `IllegalStateException` if there is no edit to undo")
                .refuses("new", Start.fresh(), UNDO, Sentence.STATE)
                .refuses("moves of the text", Start.text("round 12 23 34;left 0;pass;"), UNDO, Sentence.STATE)
                .answers("one edit", GAME.then(LEFT), UNDO, 0)
                .refuses("one edit, undone", GAME.then(LEFT, UNDO), UNDO, Sentence.STATE)
                .refuses("8 edits, undone", edited(8).then(UNDO, UNDO, UNDO, UNDO, UNDO, UNDO, UNDO, UNDO), UNDO,
                        Sentence.STATE)
                .answers("9 edits, 7 undone", edited(9).then(UNDO, UNDO, UNDO, UNDO, UNDO, UNDO, UNDO), UNDO, 0)
                .refuses("9 edits, 8 undone", edited(9).then(UNDO, UNDO, UNDO, UNDO, UNDO, UNDO, UNDO, UNDO), UNDO,
                        Sentence.STATE)
                .refuses("loaded", GAME.then(LEFT).typing("round 12 23;").then(game -> game.load()), UNDO,
                        Sentence.STATE);
    }

    private static void save() {
        Sentence all = Sentence.of(60, "Saves everything that undo() restores, replacing an earlier saved state");
        sameState(all, "at first", GAME.then(SAVE, LEFT, PASS, RESTORE), GAME);
        sameState(all, "after a pass", GAME.then(PASS, SAVE, LEFT, RESTORE), GAME.then(PASS));
        sameState(all, "over", OVER.then(SAVE, NEXT, LEFT, RESTORE), OVER);
        sameState(all, "in another round", OVER.then(NEXT, LEFT, SAVE, NEXT, LEFT, RESTORE), OVER.then(NEXT, LEFT));
        sameState(all, "the second of two", GAME.then(SAVE, LEFT, SAVE, PASS, RESTORE), GAME.then(LEFT));
        sameState(all, "not the edits after it", GAME.then(LEFT, SAVE, UNDO, PASS, RESTORE), GAME.then(LEFT));
        Sentence.of(60, "This is not an edit")
                .refuses("alone", GAME.then(SAVE), UNDO, Sentence.STATE)
                .answers("behind an edit", GAME.then(LEFT, SAVE), UNDO, 0)
                .answers("before an edit", GAME.then(SAVE, LEFT), UNDO, 0)
                .answers("behind 8 edits", edited(8).then(SAVE), UNDO, 7);
        Sentence.of(60, "Returns the number of moves in the move log")
                .answers("0", GAME, SAVE, 0)
                .answers("1", GAME.then(PASS), SAVE, 1)
                .answers("2", GAME.then(PASS, LEFT), SAVE, 2)
                .answers("of a new round", OVER.then(NEXT), SAVE, 0)
                .answers("of the text", Start.text("round 12 23 34;left 0;pass;"), SAVE, 2);
    }

    private static void restore() {
        Start saved = GAME.then(LEFT, SAVE, PASS, LEFT);
        Sentence state = Sentence.of(61, "Replaces the state by the saved state");
        sameState(state, "after moves", saved.then(RESTORE), GAME.then(LEFT));
        sameState(state, "at once", GAME.then(SAVE, RESTORE), GAME);
        sameState(state, "from another round", GAME.then(SAVE, PASS, PASS, NEXT, LEFT, NEXT, RESTORE), GAME);
        sameState(state, "and played on", saved.then(RESTORE, PASS, PASS), GAME.then(LEFT, PASS, PASS));
        Sentence kept = Sentence.of(61, "The saved state is kept")
                .answers("once more", saved.then(RESTORE), RESTORE, 1)
                .answers("after other moves", saved.then(RESTORE, PASS, PASS), RESTORE, 1)
                .answers("after undoing", saved.then(RESTORE, UNDO), RESTORE, 1);
        sameState(kept, "once more", saved.then(RESTORE, LEFT, RESTORE), GAME.then(LEFT));
        Sentence.of(61, "Returns the number of moves in the move log")
                .answers("1", saved, RESTORE, 1)
                .answers("0", GAME.then(SAVE, LEFT), RESTORE, 0)
                .answers("of another round", OVER.then(SAVE, NEXT), RESTORE, 2);
        Sentence.of(61, "Throws `IllegalStateException` if there is no saved state")
                .refuses("new", Start.fresh(), RESTORE, Sentence.STATE)
                .refuses("loaded", GAME, RESTORE, Sentence.STATE)
                .refuses("edits alone", GAME.then(LEFT, PASS), RESTORE, Sentence.STATE)
                .answers("saved", GAME.then(SAVE), RESTORE, 0)
                .refuses("saved and loaded", GAME.then(SAVE).typing("round 12 23;").then(game -> game.load()),
                        RESTORE, Sentence.STATE)
                .answers("saved and loaded in error", GAME.then(SAVE).trying(game -> game.load()), RESTORE, 0);
    }

    private static void calls512() {
        Sentence calls = Sentence.about("An object is used for at most 512 calls after it has been made;");
        DominoChains undoing = new DominoChains();
        DominoChains restoring = new DominoChains();
        DominoChains appending = new DominoChains();
        for (int call = 1; call <= 512; call += 2) {
            calls.same("call " + call + ", burn", undoing.burn(1, false), 6)
                    .same("call " + (call + 1) + ", undo", undoing.undo(), 0);
            calls.same("call " + call + ", save", restoring.save(), 0);
            calls.same("call " + (call + 1), call < 511 ? restoring.restore() : restoring.undo(), call < 511 ? 0 : 7);
            calls.same("call " + call + ", append", appending.append(0, 0, 0, 0, 0), 20);
            calls.same("call " + (call + 1) + ", load", Check.outcome(() -> appending.load()),
                    "throws IllegalArgumentException");
        }
    }
}
