/** The boundaries of promises 62 to 65: the formatted text. */
final class FormatEdges {
    private static final Start GAME = Start.text("round 12 23, 00 01 13 34 42 25 56 66, 44;");
    private static final Start STUCK = Start.text("round 36 66 61;");
    private static final Start.Step LOG = game -> game.formatLog();
    private static final Start.Step LINE = game -> game.formatOptimalLine();

    private FormatEdges() {
    }

    static void run() {
        formatChain();
        formatLog();
        formatOptimalLine();
        formattedCharacter();
    }

    private static Start.Step chain(int chain) {
        return game -> game.formatChain(chain);
    }

    /** The whole text, whose length the call answers, and that nothing comes behind it. */
    private static Start.Step textOf(Start.Step step) {
        return game -> {
            int length = (int) step.on(game);
            String text = View.text(game, length);
            return text + Check.outcome(() -> game.formattedCharacter(length));
        };
    }

    private static void text(Sentence sentence, String name, Start start, Start.Step step, String want) {
        sentence.answers(name, start, textOf(step), want + "throws IndexOutOfBoundsException");
        sentence.same(name + ", the state", View.state(start.then(step).game()), View.state(start.game()));
    }

    private static void formatChain() {
        Sentence replaces = Sentence.of(62, "Formats a chain and replaces the formatted text by it");
        text(replaces, "no text before", GAME, chain(0), "12-23");
        text(replaces, "a longer text before", GAME.then(chain(1)), chain(0), "12-23");
        text(replaces, "a shorter text before", GAME.then(chain(2)), chain(0), "12-23");
        text(replaces, "the same again", GAME.then(chain(0)), chain(0), "12-23");
        Sentence now = Sentence.of(62, "Each tile that the chain has now consists of its left value and its right "
                + "value");
        text(now, "one tile", GAME, chain(2), "44");
        text(now, "eight tiles", GAME, chain(1), "00-01-13-34-42-25-56-66");
        text(now, "after a left burn", GAME.then(game -> game.burn(1, true)), chain(1), "01-13-34-42-25-56-66");
        text(now, "after a right burn", GAME.then(game -> game.burn(1, false)), chain(1), "00-01-13-34-42-25-56");
        text(now, "after undoing", GAME.then(game -> game.burn(0, true), game -> game.undo()), chain(0), "12-23");
        text(now, "burnt down", GAME.then(game -> game.burn(0, true)), chain(0), "23");
        text(now, "over by passes", GAME.then(game -> game.pass(), game -> game.pass()), chain(0), "12-23");
        text(now, "of the next round", Start.text("round 11;round 22;next;"), chain(0), "22");
        Sentence hyphen = Sentence.of(62, "A hyphen separates two tiles");
        text(hyphen, "none", GAME, chain(2), "44");
        text(hyphen, "one", GAME, chain(0), "12-23");
        text(hyphen, "two", Start.text("round 12 23 34;"), chain(0), "12-23-34");
        Sentence.of(62, "- `chain`: index of the chain")
                .answers("0", GAME, chain(0), 5)
                .answers("1", GAME, chain(1), 23)
                .answers("2", GAME, chain(2), 2);
        Sentence.of(62, "Returns the length of the formatted text")
                .answers("one tile", GAME, chain(2), 2)
                .answers("two tiles", GAME, chain(0), 5)
                .answers("eight tiles", GAME, chain(1), 23)
                .answers("seven tiles", GAME.then(game -> game.burn(1, true)), chain(1), 20);
        Sentence none = Sentence.of(62, "Throws `IndexOutOfBoundsException` if there is no such chain");
        none.refusesBeyond("of 3", GAME, (game, index) -> game.formatChain(index), 3, Sentence.INDEX)
                .refusesBeyond("of 3, with a text", GAME.then(chain(1)), (game, index) -> game.formatChain(index), 3,
                        Sentence.INDEX)
                .refusesBeyond("of 1", STUCK, (game, index) -> game.formatChain(index), 1, Sentence.INDEX)
                .refusesBeyond("of the next round", Start.text("round 11,33;round 22;next;"),
                        (game, index) -> game.formatChain(index), 1, Sentence.INDEX);
    }

    private static void formatLog() {
        Start one = Start.text("round 12 23 34, 45 56;pass;");
        Start many = Start.text("round 12 23 34, 45 56, 44 46;pass;left 1;right 2;")
                .then(game -> game.burn(0, false), game -> game.pass());
        Sentence replaces = Sentence.of(63, "Formats the move log and replaces the formatted text by it");
        text(replaces, "no text before", many, LOG, "P L1 R2 R0 P");
        text(replaces, "a longer text before", one.then(chain(0)), LOG, "P");
        text(replaces, "a shorter text before", many.then(chain(1)), LOG, "P L1 R2 R0 P");
        Sentence letters = Sentence.of(63, "A burn consists of the letter L or R and the index of the chain, a pass "
                + "of the letter P");
        for (int chain = 0; chain <= 2; chain++) {
            int index = chain;
            Start three = Start.text("round 12 23, 45 56, 44 46;");
            text(letters, "left " + chain, three.then(game -> game.burn(index, true)), LOG, "L" + chain);
            text(letters, "right " + chain, three.then(game -> game.burn(index, false)), LOG, "R" + chain);
        }
        text(letters, "pass", one, LOG, "P");
        text(letters, "two passes", one.then(game -> game.pass()), LOG, "P P");
        Sentence space = Sentence.of(63, "A space separates two moves");
        text(space, "one move", one, LOG, "P");
        text(space, "two moves", one.then(game -> game.burn(0, true)), LOG, "P L0");
        text(space, "three moves", one.then(game -> game.burn(0, true), game -> game.burn(1, false)), LOG, "P L0 R1");
        Sentence empty = Sentence.of(63, "The text is empty if the log is empty");
        text(empty, "new", Start.fresh(), LOG, "");
        text(empty, "a text before", GAME.then(chain(0)), LOG, "");
        text(empty, "a new round", Start.text("round 12 23;round 11;left 0;next;"), LOG, "");
        text(empty, "before the new round", Start.text("round 12 23;round 11;left 0;"), LOG, "L0");
        text(empty, "undone", GAME.then(game -> game.pass(), game -> game.undo()), LOG, "");
        Start longest = Start.text("round 00 01 11 12 22 23 33 30, 02 24 44 40 05 55 51 14, 06 66 61 13 34 45 52 26;");
        for (int burn = 0; burn < 21; burn++) {
            int index = burn % 3;
            longest = longest.then(game -> game.pass(), game -> game.burn(index, true));
        }
        Sentence.of(63, "Returns the length of the formatted text")
                .answers("no move", GAME, LOG, 0)
                .answers("a pass", one, LOG, 1)
                .answers("a burn", GAME.then(game -> game.burn(0, true)), LOG, 2)
                .answers("five moves", many, LOG, 12)
                .answers("42 moves, the most", longest, LOG, 21 * 5 - 1)
                .answers("41 moves", longest.then(game -> game.undo()), LOG, 20 * 5 + 1)
                .answers("the end of 42 moves", longest, textOf(LOG),
                        "P L0 P L1 P L2 ".repeat(7).strip() + "throws IndexOutOfBoundsException");
    }

    private static void formatOptimalLine() {
        Start three = Start.text("round 62 24 45;");
        Sentence line = Sentence.of(64, "Formats the optimal line and replaces the formatted text by it, in the "
                + "same way as formatLog()");
        text(line, "two burns", three, LINE, "R0 L0");
        text(line, "one burn, from now on", three.then(game -> game.burn(0, false)), LINE, "L0");
        text(line, "two passes", STUCK, LINE, "P P");
        text(line, "one pass", STUCK.then(game -> game.pass()), LINE, "P");
        text(line, "a longer text before", STUCK.then(chain(0)), LINE, "P P");
        text(line, "a shorter text before", three.then(game -> game.pass(), LOG), LINE, "R0 L0");
        text(line, "the second chain", Start.text("round 11,12 23;"), LINE, "R1");
        Sentence empty = Sentence.of(64, "The text is empty if the round is over");
        text(empty, "one pass before", STUCK.then(game -> game.pass()), LINE, "P");
        text(empty, "over by passes", STUCK.then(game -> game.pass(), game -> game.pass()), LINE, "");
        text(empty, "over by burns", Start.text("round 12 23;left 0;"), LINE, "");
        text(empty, "over as it begins", Start.text("round 11;"), LINE, "");
        text(empty, "a text before", Start.text("round 11;").then(chain(0)), LINE, "");
        Sentence.of(64, "Returns the length of the formatted text")
                .answers("none", Start.text("round 11;"), LINE, 0)
                .answers("a pass", STUCK.then(game -> game.pass()), LINE, 1)
                .answers("a burn", Start.text("round 12 23;"), LINE, 2)
                .answers("two passes", STUCK, LINE, 3)
                .answers("two burns", three, LINE, 5);
    }

    private static void formattedCharacter() {
        Sentence.Indexed sign = (game, index) -> game.formattedCharacter(index);
        Start five = GAME.then(chain(0));
        Sentence.of(65, "Returns a character of the formatted text")
                .each("of a chain", five, sign, '1', '2', '-', '2', '3');
        Sentence.of(65, "- `index`: index of the character, from 0")
                .each("of a log", STUCK.then(game -> game.pass(), LOG), sign, 'P')
                .each("of a line", STUCK.then(LINE), sign, 'P', ' ', 'P');
        Sentence.of(65, "Returns the character")
                .each("of burns", STUCK.then(game -> game.burn(0, true), game -> game.burn(0, false), LOG),
                sign, 'L', '0', ' ', 'R', '0').each("lowest and highest pips", GAME.then(game -> game.burn(0, true),
                        chain(1)),
                sign, '0', '0', '-', '0', '1', '-', '1', '3');
        Sentence.of(65, "Throws `IndexOutOfBoundsException` if there is no such character")
                .refusesBeyond("no text yet", GAME, sign, 0, Sentence.INDEX)
                .refusesBeyond("of 5", five, sign, 5, Sentence.INDEX)
                .refusesBeyond("of 23", GAME.then(chain(1)), sign, 23, Sentence.INDEX)
                .refusesBeyond("of 2 after 23", GAME.then(chain(1), chain(2)), sign, 2, Sentence.INDEX)
                .refusesBeyond("of an empty log", five.then(LOG), sign, 0, Sentence.INDEX)
                .refusesBeyond("of an empty line", Start.text("round 11;").then(chain(0), LINE), sign, 0,
                        Sentence.INDEX)
                .refusesBeyond("after a refused format", five.trying(chain(3)), sign, 5, Sentence.INDEX);
    }
}
