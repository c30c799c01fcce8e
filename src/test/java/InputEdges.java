/** The boundaries of promises 1 to 6: a new object, the input buffer, loading and the parse error. */
final class InputEdges {
    private static final int[] BLANKS = {0x20202020, 0x20202020, 0x20202020, 0x20202020, 0x20202020};
    private static final Start.Step APPEND = game -> append(game, BLANKS);
    private static final Start.Step LOAD = game -> game.load();

    private InputEdges() {
    }

    static void run() {
        newObject();
        append();
        bytesOfParameters();
        truncate();
        load();
        loadInError();
        errorKind();
        errorPosition();
    }

    private static int append(DominoChains game, int[] words) {
        return game.append(words[0], words[1], words[2], words[3], words[4]);
    }

    private static Start.Step truncate(int length) {
        return game -> {
            game.truncate(length);
            return "done";
        };
    }

    /** A new game whose input buffer holds as many blanks. */
    private static Start held(int length) {
        return Start.fresh().typing(" ".repeat(length));
    }

    private static void newObject() {
        Start fresh = Start.fresh();
        Sentence.of(1, "Creates the match that the text \"round 12 26 63, 05 55 51;\" describes")
                .same("all that can be seen", View.whole(fresh), View.whole(Start.text("round 12 26 63, 05 55 51;")))
                .tells("one round", fresh, game -> game.roundCount(), 1)
                .tells("two chains", fresh, game -> game.chainCount(), 2)
                .answers("first chain", fresh, game -> View.text(game, game.formatChain(0)), "12-26-63")
                .answers("second chain", fresh, game -> View.text(game, game.formatChain(1)), "05-55-51");
        Sentence.of(1, "with an empty input buffer")
                .answers("truncate to 0", fresh, truncate(0), "done")
                .refuses("truncate to 1", fresh, truncate(1), Sentence.ARGUMENT)
                .answers("the first append", fresh, APPEND, 20);
        Sentence.of(1, "and no saved state")
                .refuses("restore", fresh, game -> game.restore(), Sentence.STATE)
                .answers("restore after a save", fresh.then(game -> game.save()), game -> game.restore(), 0);
    }

    private static void append() {
        Sentence.of(2, "Appends 20 bytes to the input buffer")
                .answers("to 0", held(0), APPEND, 20)
                .answers("20 are there", held(0).then(APPEND), truncate(20), "done")
                .refuses("21 are not there", held(0).then(APPEND), truncate(21), Sentence.ARGUMENT);
        Sentence.of(2, "Returns the new length of the input buffer")
                .answers("from 0", held(0), APPEND, 20)
                .answers("from 1", held(1), APPEND, 21)
                .answers("from 20", held(20), APPEND, 40)
                .answers("from 479", held(479), APPEND, 499);
        Sentence.of(2, "Throws `IllegalStateException` if the new length would exceed 500")
                .answers("to 499", held(479), APPEND, 499)
                .answers("to 500", held(480), APPEND, 500)
                .refuses("to 501", held(481), APPEND, Sentence.STATE)
                .refuses("to 519", held(499), APPEND, Sentence.STATE)
                .refuses("to 520", held(500), APPEND, Sentence.STATE)
                .answers("to 500 again, after a refused one", held(481).trying(APPEND).then(truncate(480)), APPEND,
                        500);
    }

    // A byte that no text allows shows by the error position where it stands.
    private static void bytesOfParameters() {
        Sentence order = Sentence.of(2, "the four bytes of each parameter in order, the most significant byte first");
        for (int i = 0; i < 5; i++) {
            Sentence place = Sentence.of(2, "- `w" + i + "`: bytes " + 4 * i + " to " + (4 * i + 3));
            for (int j = 0; j < 4; j++) {
                int[] signs = BLANKS.clone();
                int[] highest = BLANKS.clone();
                signs[i] ^= 0x01000000 >>> 8 * j;
                highest[i] |= 0xff000000 >>> 8 * j;
                int at = 4 * i + j;
                place.answers("byte " + j, held(0), game -> position(game, signs), at);
                order.answers("byte 255 as byte " + at, held(0), game -> position(game, highest), at);
                order.answers("byte " + at + " behind 7", held(7), game -> position(game, signs), 7 + at);
            }
        }
        order.answers("a text", held(0), game -> append(game, new int[] {0x726f756e, 0x64203132, 0x2032333b,
            0x6c656674, 0x20303b20}) + game.load() + View.text(game, game.formatLog()), "21L0");
    }

    private static int position(DominoChains game, int[] words) {
        append(game, words);
        Check.outcome(() -> game.load());
        return game.errorPosition();
    }

    private static void truncate() {
        Sentence.of(3, "Shortens the input buffer to its first bytes")
                .answers("the first ones stay", Start.fresh().typing("round 12;x").then(truncate(9)), LOAD, 1)
                .answers("one less", Start.fresh().typing("round 12;x").then(truncate(8)), LOAD,
                        "throws IllegalArgumentException")
                .answers("none is cut off", Start.fresh().typing("round 12;x").then(truncate(10)), LOAD,
                        "throws IllegalArgumentException")
                .answers("a cut in a run of digits", Start.fresh().typing("round 123").then(truncate(8)).trying(LOAD),
                        game -> game.errorPosition(), 8)
                .answers("a cut in a tile", Start.fresh().typing("round 12").then(truncate(7)).trying(LOAD),
                        game -> game.errorPosition(), 6)
                .answers("a cut in a word", Start.fresh().typing("rounds").then(truncate(5)).trying(LOAD),
                        game -> game.errorPosition(), 5)
                .answers("a cut before blanks", Start.fresh().typing("round   ").then(truncate(6)).trying(LOAD),
                        game -> game.errorPosition(), 6)
                .answers("what is cut off does not come back",
                        held(0).typing("round 12;x").then(truncate(9), APPEND), LOAD, 1);
        Sentence range = Sentence.of(3, "- `length`: the new length, 0 to the present length");
        Sentence refusal = Sentence.of(3, "Throws `IllegalArgumentException` if length is out of this range");
        for (int present : new int[] {0, 1, 20, 499, 500}) {
            range.answers("0 of " + present, held(present), truncate(0), "done")
                    .answers("0 of " + present + " leaves 0", held(present).then(truncate(0)), APPEND, 20)
                    .tells("all of " + present, held(present), truncate(present), "done");
            refusal.refusesBeyond("of " + present, held(present), (game, length) -> truncate(length).on(game),
                    present + 1, Sentence.ARGUMENT);
        }
        range.answers("19 of 20", held(20).then(truncate(19)), APPEND, 39)
                .answers("1 of 20", held(20).then(truncate(1)), APPEND, 21)
                .answers("499 of 500", held(500), truncate(499), "done");
    }

    private static void load() {
        Start busy = Start.fresh().then(game -> game.burn(0, true), game -> game.save(), game -> game.pass());
        Sentence.of(4, "Parses the input buffer and replaces the match by the one that it describes")
                .same("nothing of the match before is left",
                        View.whole(busy.typing("round 11 12;right 0;").then(LOAD)),
                        View.whole(Start.text("round 11 12;right 0;")))
                .answers("optimal play of the match before", busy.then(game -> game.optimalDifference())
                        .typing("round 36 66 61;").then(LOAD), game -> game.moveValue(0), -15)
                .answers("the greedy player of the match before", busy.then(game -> game.greedyAgainstBest())
                        .typing("round 36 66 61;").then(LOAD), game -> game.differenceAgainstGreedy(), 15)
                .answers("the text of a new object", busy.typing("round 12 26 63, 05 55 51;").then(LOAD),
                        game -> game.burn(0, true), 3);
        loadAgain();
        Sentence empty = Sentence.of(4, "The input buffer is empty afterwards, with or without an error");
        for (String text : new String[] {"", " ", "round 12;", "round 12;x", "round 12;" + " ".repeat(491),
            "x" + " ".repeat(499)}) {
            Start loaded = Start.fresh().typing(text).trying(LOAD);
            empty.answers("append after " + text.strip(), loaded, APPEND, 20)
                    .answers("truncate to 0 after " + text.strip(), loaded, truncate(0), "done")
                    .refuses("truncate to 1 after " + text.strip(), loaded, truncate(1), Sentence.ARGUMENT);
        }
        Sentence forgotten = Sentence.of(4, "Without an error no edit can be undone, there is no saved state, and "
                + "the move log contains the moves of the text");
        forgotten.refuses("undo", busy.typing("round 12 23;left 0;").then(LOAD), game -> game.undo(), Sentence.STATE)
                .answers("undo after an error", busy.typing("round").trying(LOAD), game -> game.undo(), 1)
                .answers("undo after one new edit", busy.typing("round 12 23;").then(LOAD, game -> game.pass()),
                        game -> game.undo(), 0)
                .refuses("restore", busy.typing("round 12 23;").then(LOAD), game -> game.restore(), Sentence.STATE)
                .answers("restore after an error", busy.typing("round").trying(LOAD), game -> game.restore(), 1)
                .answers("log without moves", busy.typing("round 12 23;").then(LOAD), DominoChains::loggedMoveCount, 0)
                .answers("log of one move", busy.typing("round 12 23;pass;").then(LOAD),
                        DominoChains::loggedMoveCount, 1)
                .answers("log of moves", busy.typing("round 12 23 34;pass;right 0;left 0;").then(LOAD),
                        game -> View.text(game, game.formatLog()), "P R0 L0")
                .answers("log of the text's last round alone",
                        busy.typing("round 12 23;round 12 23;left 0;next;pass;").then(LOAD),
                        game -> View.text(game, game.formatLog()), "P")
                .answers("log of a round just begun", busy.typing("round 12 23;round 12 23;left 0;next;").then(LOAD),
                        DominoChains::loggedMoveCount, 0);
        Sentence.of(4, "Returns the number of rounds").loads("round 11;", 1).loads("round 11;round 11;", 2)
                .loads("round 11;round 11;round 11;", 3).loads("round 11;round 11;round 11;round 11;", 4);
    }

    // A text with something of everything, good or with an error at its end, and then a short one.
    private static void loadAgain() {
        Sentence replaces = Sentence.of(4, "replaces the match by the one that it describes");
        String full = "round 12 23,34 45,56 66;".repeat(4)
                + "left 0;left 1;pass;left 2;next;right 0;right 1;pass;right 2;next;pass;pass;next;left 2;pass;pass;";
        for (String text : new String[] {full, full + "pass", full + "round", "round 12 23 34,45 56 61,13 33 36;x"}) {
            for (String then : new String[] {"round 12,34;round 56;", "round 12 23;round 34 45;pass;left 0;next;"}) {
                replaces.same(text + " and then " + then,
                        View.whole(Start.fresh().typing(text).trying(LOAD).typing(then).then(LOAD)),
                        View.whole(Start.text(then)));
            }
        }
    }

    private static void loadInError() {
        Sentence.of(4, "Throws `IllegalArgumentException` if the text has an error;")
                .loads("round 12;", 1).errs("", DominoChains.SYNTAX_ERROR, 0)
                .errs("round 12", DominoChains.SYNTAX_ERROR, 8).errs("round 17;", DominoChains.INVALID_PIPS, 6)
                .errs("round 12 34;", DominoChains.MISMATCH, 9).errs("round 12 21;", DominoChains.DUPLICATE_TILE, 9)
                .errs("round 11,22,33,44;", DominoChains.TOO_MANY, 14)
                .errs("round 11;pass;", DominoChains.INVALID_MOVE, 9);
        Start saved = Start.text("round 12 23;")
                .then(game -> game.pass(), game -> game.save(), game -> game.formatLog());
        Sentence.of(4, "then only the input buffer and the parse error change")
                .same("match after a good round and a bad move",
                        View.match(saved.typing("round 66 61;left 1;").trying(LOAD)),
                        View.match(saved))
                .same("match after an empty text", View.match(saved.trying(LOAD)), View.match(saved))
                .answers("the parse error", saved.typing("round 66 61;left 1;").trying(LOAD),
                        game -> game.errorKind() + " at " + game.errorPosition(), "6 at 17")
                .answers("the input buffer", saved.typing("round 66 61;left 1;").trying(LOAD), APPEND, 20);
    }

    private static void errorKind() {
        Start.Step kind = game -> game.errorKind();
        Sentence found = Sentence.of(5, "Returns the kind of the error that the latest call of load() found;");
        String[] texts = {"round", "round 17", "round 12 34", "round 12 21", "round 11,22,33,", "round 11;pass"};
        for (int i = 0; i < texts.length; i++) {
            Start bad = Start.fresh().typing(texts[i]).trying(LOAD);
            found.tells("after " + texts[i], bad, kind, i + 1)
                    .tells("of the latest call", bad.typing("round").trying(LOAD), kind, 1)
                    .tells("of the latest call, the other way round",
                            Start.fresh().trying(LOAD).typing(texts[i]).trying(LOAD), kind, i + 1);
        }
        found.tells("calls between change nothing", Start.fresh().typing("round 17").trying(LOAD)
                .then(APPEND, truncate(3), game -> game.pass(), game -> game.undo()), kind, 2);
        Sentence.of(5, "NO_ERROR if it found none or if load() has not been called")
                .tells("not called", Start.fresh(), kind, 0)
                .tells("not called, with a wrong text in the buffer", Start.fresh().typing("wrong"), kind, 0)
                .tells("called and wrong", Start.fresh().typing("wrong").trying(LOAD), kind, 1)
                .tells("found none", Start.text("round 12;"), kind, 0)
                .tells("found none after an error", Start.fresh().trying(LOAD).typing("round 12;").then(LOAD), kind, 0);
    }

    private static void errorPosition() {
        Start.Step position = game -> game.errorPosition();
        Sentence.of(6, "Returns the error position of the latest call of load();")
                .tells("0 of an empty text", Start.fresh().trying(LOAD), position, 0)
                .tells("0 of one byte", Start.fresh().typing("x").trying(LOAD), position, 0)
                .tells("1 of one blank", Start.fresh().typing(" ").trying(LOAD), position, 1)
                .tells("499, the last byte", Start.fresh().typing("round 12;" + " ".repeat(490) + "x").trying(LOAD),
                        position, 499)
                .tells("500, the end", Start.fresh().typing("round 12" + " ".repeat(492)).trying(LOAD), position, 500)
                .tells("of the latest call", Start.fresh().typing("round 12 x").trying(LOAD).typing("round x")
                        .trying(LOAD), position, 6);
        Sentence.of(6, "NONE if errorKind() is NO_ERROR")
                .tells("not called", Start.fresh(), position, -1)
                .tells("not called, with a wrong text in the buffer", Start.fresh().typing("wrong"), position, -1)
                .tells("no error", Start.text("round 12;"), position, -1)
                .tells("no error after one", Start.fresh().trying(LOAD).typing("round 12;").then(LOAD), position, -1)
                .tells("an error at 0", Start.fresh().trying(LOAD), position, 0);
    }
}
