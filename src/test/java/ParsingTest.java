/** Promises 1 to 6: a new object, the input buffer, load and the parse error. */
public final class ParsingTest {
    public static void main(String[] args) {
        newObject();
        inputBuffer();
        goodTexts();
        load();
        syntaxErrors();
        tileErrors();
        tooMany();
        invalidMoves();
        bytes();
        Check.end();
    }

    private static void newObject() {
        DominoChains game = new DominoChains();
        Check.same("new rounds", game.roundCount(), 1);
        Check.same("new chain 0", Check.formatted(game, game.formatChain(0)), "12-26-63");
        Check.same("new chain 1", Check.formatted(game, game.formatChain(1)), "05-55-51");
        Check.same("new chains", game.chainCount(), 2);
        Check.same("new log", game.loggedMoveCount(), 0);
        Check.same("new player", game.playerToMove(), 0);
        Check.same("new score", game.totalScore(0) + game.totalScore(1), 0);
        Check.same("new error kind", game.errorKind(), DominoChains.NO_ERROR);
        Check.same("new error position", game.errorPosition(), DominoChains.NONE);
        Check.noState("new: nothing to undo", () -> game.undo());
        Check.noState("new: nothing saved", () -> game.restore());
        Check.noIndex("new: no formatted text", () -> new DominoChains().formattedCharacter(0));
        Check.noArgument("new: the buffer is empty", () -> truncate(game, 1));
    }

    private static Object truncate(DominoChains game, int length) {
        game.truncate(length);
        return length;
    }

    private static void inputBuffer() {
        DominoChains game = new DominoChains();
        for (int i = 1; i <= 25; i++) {
            Check.same("append " + i, game.append(0x20202020, 0, -1, 0, 0x0a0a0a0a), 20 * i);
        }
        Check.noState("append beyond 500", () -> game.append(0, 0, 0, 0, 0));
        Check.noArgument("truncate below 0", () -> truncate(game, -1));
        Check.noArgument("truncate beyond the length", () -> truncate(game, 501));
        Check.same("truncate to the length", truncate(game, 500), 500);
        Check.same("truncate", truncate(game, 481), 481);
        Check.noState("append to 501", () -> game.append(0, 0, 0, 0, 0));
        Check.noArgument("truncate does not lengthen", () -> truncate(game, 482));
        Check.same("truncate to 480", truncate(game, 480), 480);
        Check.same("append to 500", game.append(0, 0, 0, 0, 0), 500);
        Check.same("truncate to 0", truncate(game, 0), 0);
        Check.same("append after truncate to 0", game.append(0, 0, 0, 0, 0), 20);
        // "round 12 23;" with the bytes of each word from the highest down
        DominoChains other = new DominoChains();
        other.append(0x726f756e, 0x64203132, 0x2032333b, 0x20202020, 0x20202020);
        Check.same("bytes in their order", other.load(), 1);
        Check.same("chain of these bytes", Check.formatted(other, other.formatChain(0)), "12-23");
    }

    private static void goodTexts() {
        good("round 12;", 1);
        good("round12;", 1);
        good(" \n round \n 12\n , \n 12", -1);
        good("\nround\n12\n23\n,\n34\n;\n", 1);
        good("round 00 01 12 23 34 45 56 66;", 1);
        good("round 11,22,33;", 1);
        good("round 11;round 11;round 11;round 11;", 4);
        good("round 12 23;left0;", 1);
        good("round 12 23;right 0;", 1);
        good("round 12 23;pass;pass;", 1);
        good("round 12 23;round 12;pass;pass;next;", 2);
        good("round 12;round 12 21", -1);
        good("round 12 23 34;pass;left 0;pass;right 0;", 1);
    }

    private static void good(String text, int rounds) {
        DominoChains game = new DominoChains();
        Check.type(game, 0, text);
        Object want = rounds < 0 ? "throws IllegalArgumentException" : (Object) rounds;
        Check.same("load " + text, Check.outcome(() -> game.load()), want);
    }

    private static void load() {
        DominoChains game = new DominoChains();
        game.burn(0, true);
        game.save();
        game.formatChain(0);
        Check.type(game, 0, "round 12 23 34, 45 51;round 66;left 1;pass;");
        Check.same("load", game.load(), 2);
        Check.noArgument("load empties the buffer", () -> truncate(game, 1));
        Check.noState("load forgets the edits", () -> game.undo());
        Check.noState("load forgets the saved state", () -> game.restore());
        Check.same("log of the text", game.loggedMoveCount(), 2);
        Check.same("log of the text, chain", game.loggedChain(0), 1);
        Check.same("score of the text", game.roundScore(0, 0), 9);
        Check.same("load keeps the formatted text", Check.formatted(game, 5), "26-63");
        game.save();
        game.burn(0, false);
        Check.type(game, 0, "round 12 23; left");
        Check.noArgument("load of an error", () -> game.load());
        Check.same("error kind", game.errorKind(), DominoChains.SYNTAX_ERROR);
        Check.same("error position", game.errorPosition(), 17);
        Check.noArgument("load of an error empties the buffer", () -> truncate(game, 1));
        Check.same("an error leaves the match", game.roundCount(), 2);
        Check.same("an error leaves the log", game.loggedMoveCount(), 3);
        Check.same("an error leaves the chains", game.chainLength(0), 2);
        Check.same("an error leaves the saved state", game.restore(), 2);
        Check.same("an error leaves the edits", game.undo(), 1);
        Check.type(game, 0, "round 12;");
        game.load();
        Check.same("error kind after a good text", game.errorKind(), DominoChains.NO_ERROR);
        Check.same("error position after a good text", game.errorPosition(), DominoChains.NONE);
    }

    private static void syntaxErrors() {
        int kind = DominoChains.SYNTAX_ERROR;
        bad("", kind, 0);
        bad("  ", kind, 2);
        bad("left 0;", kind, 0);
        bad("12", kind, 0);
        bad(" foo", kind, 1);
        bad("rounds 12;", kind, 0);
        bad("roun 12;", kind, 0);
        bad("roundround 12;", kind, 0);
        bad("rounda 12;", kind, 0);
        bad("roundz 12;", kind, 0);
        bad("zround 12;", kind, 0);
        bad("round 12 23;passa;", kind, 12);
        bad("round 12 23;passz;", kind, 12);
        bad("round 12 23;lefta0;", kind, 12);
        bad("round 12 23;abcdefghi;", kind, 12);
        bad("round11;round11;round11;round11;roundabcd", kind, 32);
        bad("Round 12;", kind, 0);
        bad("round", kind, 5);
        bad("round \n", kind, 7);
        bad("round ;", kind, 6);
        bad("round ,", kind, 6);
        bad("round 1;", kind, 6);
        bad("round 8;", kind, 6);
        bad("round 123;", kind, 6);
        bad("round 789;", kind, 6);
        bad("round 12 3", kind, 9);
        bad("round 12 333;", kind, 9);
        bad("round 12", kind, 8);
        bad("round 12 ", kind, 9);
        bad("round 12 left", kind, 9);
        bad("round 12,;", kind, 9);
        bad("round 12,,", kind, 9);
        bad("round 12,23", kind, 11);
        bad("round 12\t;", kind, 8);
        bad("round 12;;", kind, 9);
        bad("round 12 23;left", kind, 16);
        bad("round 12 23;left;", kind, 16);
        bad("round 12 23;left 00", kind, 17);
        bad("round 12 23;left 0", kind, 18);
        bad("round 12 23;left 0 left", kind, 19);
        bad("round 12 23;left pass;", kind, 17);
        bad("round 12 23;pass", kind, 16);
        bad("round 12 23;pass pass;", kind, 17);
        bad("round 12 23;round 12;pass;pass;next", kind, 35);
        bad("round 12 23;pass;round 12;", kind, 17);
        bad("round 11;round 11;round 11;round 11 22", DominoChains.MISMATCH, 36);
        bad("round 12 23;0;", kind, 12);
        bad("round 12 23;undo;", kind, 12);
        bad("round 12 23;left 0;left-", kind, 23);
    }

    private static void tileErrors() {
        bad("round 17;", DominoChains.INVALID_PIPS, 6);
        bad("round 71;", DominoChains.INVALID_PIPS, 6);
        bad("round 12 27 70;", DominoChains.INVALID_PIPS, 9);
        bad("round 12 39;", DominoChains.INVALID_PIPS, 9);
        bad("round 12 32;", DominoChains.MISMATCH, 9);
        bad("round 12 12;", DominoChains.MISMATCH, 9);
        bad("round 12 21;", DominoChains.DUPLICATE_TILE, 9);
        bad("round 11 11;", DominoChains.DUPLICATE_TILE, 9);
        bad("round 12 23,21;", DominoChains.DUPLICATE_TILE, 12);
        bad("round 12,34,12;", DominoChains.DUPLICATE_TILE, 12);
        good("round 12;round 12;", 2);
        good("round 12;round 21;", 2);
    }

    private static void tooMany() {
        int kind = DominoChains.TOO_MANY;
        String eight = "round 00 01 12 23 34 45 56 66";
        bad(eight + " 64;", kind, 30);
        bad(eight + " 65;", DominoChains.DUPLICATE_TILE, 30);
        bad(eight + " 54;", DominoChains.MISMATCH, 30);
        bad(eight + " 67;", DominoChains.INVALID_PIPS, 30);
        bad(eight + " 6;", DominoChains.SYNTAX_ERROR, 30);
        bad("round 11,22,33,44;", kind, 14);
        bad("round 11,22,33,", kind, 14);
        bad("round 11,22,,", DominoChains.SYNTAX_ERROR, 12);
        bad("round 11;round 11;round 11;round 11;round", kind, 36);
        bad("round 11;round 11;round 11;round 11;rounds", DominoChains.SYNTAX_ERROR, 36);
        bad("round 12 21", DominoChains.DUPLICATE_TILE, 9);
        bad("round 12 23;round 11;round 11;round 11;pass;round", DominoChains.SYNTAX_ERROR, 44);
    }

    private static void invalidMoves() {
        int kind = DominoChains.INVALID_MOVE;
        bad("round 12 23;left 1;", kind, 17);
        bad("round 12 23;right 9", kind, 18);
        bad("round 12 23,33;left 1", kind, 20);
        bad("round 12 23;right 0;right 0", kind, 26);
        bad("round 12;left 0", kind, 14);
        bad("round 12 23;pass;pass;left 0", kind, 27);
        bad("round 12 23;pass;pass;left 5", kind, 27);
        bad("round 12 23;pass;pass;left", DominoChains.SYNTAX_ERROR, 26);
        bad("round 12 23;pass;pass;left 00", DominoChains.SYNTAX_ERROR, 27);
        bad("round 12;pass", kind, 9);
        bad("round 12 23;pass;pass;pass", kind, 22);
        bad("round 12 23;left 0;pass", kind, 19);
        bad("round 12 23;next", kind, 12);
        bad("round 12 23;round 12;next", kind, 21);
        bad("round 12;next", kind, 9);
        bad("round 12;round 12;next;next", kind, 23);
    }

    private static void bytes() {
        for (int sign = 0; sign < 256; sign++) {
            boolean known = sign == ' ' || sign == '\n' || sign >= '0' && sign <= '9';
            if (!known && sign != ',' && sign != ';') {
                bad("round 12" + (char) sign, DominoChains.SYNTAX_ERROR, 8);
            }
        }
        StringBuilder longest = new StringBuilder("round 12 23;");
        while (longest.length() < 500) {
            longest.append(longest.length() % 2 == 0 ? ' ' : '\n');
        }
        good(longest.toString(), 1);
        longest.setCharAt(499, '!');
        bad(longest.toString(), DominoChains.SYNTAX_ERROR, 499);
    }

    private static void bad(String text, int kind, int position) {
        DominoChains game = new DominoChains();
        Check.type(game, 0, text);
        Check.noArgument("load " + text, () -> game.load());
        Check.same("error kind of " + text, game.errorKind(), kind);
        Check.same("error position of " + text, game.errorPosition(), position);
    }
}
