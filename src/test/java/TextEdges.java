/** The boundaries of the text format: tokens, grammar, tiles, statements, and the kinds of error. */
final class TextEdges {
    private static final int SYNTAX = DominoChains.SYNTAX_ERROR;
    private static final int PIPS = DominoChains.INVALID_PIPS;
    private static final int MISMATCH = DominoChains.MISMATCH;
    private static final int DUPLICATE = DominoChains.DUPLICATE_TILE;
    private static final int MANY = DominoChains.TOO_MANY;
    private static final int MOVE = DominoChains.INVALID_MOVE;
    private static final String FOUR = "round 11;round 11;round 11;round 11;";
    private static final String EIGHT = "round 00 01 12 23 34 45 56 66";
    // Its round is over by two passes, and it is the last one.
    private static final String PASSED = "round 12 23;pass;pass;";

    private TextEdges() {
    }

    static void run() {
        length();
        letters();
        digits();
        signs();
        blanks();
        grammarOfText();
        grammarOfMoves();
        tilesAndNumbers();
        statements();
        positions();
        severalKinds();
        syntaxErrors();
        invalidPips();
        mismatch();
        duplicates();
        everyTileTwice();
        tooMany();
        invalidMoves();
    }

    private static String sign(int number) {
        return String.valueOf((char) number);
    }

    private static void length() {
        String blanks = " ".repeat(490);
        Sentence.terms("A text has at most 500 bytes").loads("round 12;", 1).loads("round 12;" + blanks, 1)
                .loads("round 12;" + blanks + " ", 1).loads(blanks + " round 12;", 1)
                .errs("round 12;" + blanks + "x", SYNTAX, 499).errs(blanks + "round 12x;", SYNTAX, 498)
                .refuses("a byte too many", Start.fresh().typing("round 12;" + blanks + " "),
                        game -> game.append(0, 0, 0, 0, 0), Sentence.STATE);
    }

    // A letter behind a word makes another word of it, and what is no letter stands for itself.
    private static void letters() {
        Sentence word = Sentence.terms("a word (a maximal run of letters a to z)");
        for (int letter : new int[] {'a', 'b', 'm', 'y', 'z'}) {
            word.errs("round" + sign(letter) + "12;", SYNTAX, 0).errs(sign(letter) + "round 12;", SYNTAX, 0)
                    .errs("round 12 23;left" + sign(letter), SYNTAX, 12);
        }
        for (int other : new int[] {'a' - 1, 'z' + 1, 'A' - 1, 'A', 'Z', 'Z' + 1, 'a' + 128, 'z' + 128, 0, 127, 255}) {
            word.errs("round" + sign(other) + "12;", SYNTAX, 5).errs("round 12 23;left" + sign(other), SYNTAX, 16);
        }
        word.loads("round12;", 1).errs("Round 12;", SYNTAX, 0).errs("rounD 12;", SYNTAX, 0);
        for (String known : new String[] {"round", "left", "right", "pass", "next"}) {
            for (int i = 0; i < known.length(); i++) {
                String other = known.substring(0, i) + (char) (known.charAt(i) - 1) + known.substring(i + 1);
                word.errs(known.equals("round") ? other + " 12;" : "round 12 23;" + other + " 0;", SYNTAX,
                        known.equals("round") ? 0 : 12);
            }
        }
        word.errs("roun 12;", SYNTAX, 0).errs("ro und 12;", SYNTAX, 0).errs("roundround 12;", SYNTAX, 0);
    }

    // A digit behind a tile makes the run too long, and what is no digit stands for itself.
    private static void digits() {
        Sentence run = Sentence.terms("a tile (a maximal run of digits)");
        for (int digit = '0'; digit <= '9'; digit++) {
            run.errs("round 12" + sign(digit) + ";", SYNTAX, 6);
        }
        for (int other : new int[] {'0' - 1, '9' + 1, '0' + 128, '9' + 128, 0, 255}) {
            run.errs("round 12" + sign(other) + ";", SYNTAX, 8).errs("round 1" + sign(other) + "2;", SYNTAX, 6);
        }
        run.loads("round 12 23;", 1).errs("round 1223;", SYNTAX, 6).errs("round 1 2;", SYNTAX, 6);
    }

    private static void signs() {
        Sentence sign = Sentence.terms("or one of the characters ; and comma").loads("round 12;", 1)
                .loads("round 12,23;", 1);
        for (int other : new int[] {';' - 1, ';' + 1, ',' - 1, ',' + 1, ';' + 128, ',' + 128}) {
            sign.errs("round 12" + sign(other), SYNTAX, 8).errs("round 12" + sign(other) + "23;", SYNTAX, 8);
        }
        sign.errs("round 12;;", SYNTAX, 9).errs("round 12,,", SYNTAX, 9);
    }

    private static void blanks() {
        Sentence blank = Sentence.terms("Spaces (byte 32) and line feeds (byte 10) may occur before, between and "
                + "after tokens");
        String text = "round 12 23 34 , 45 ; round 11 ; left 0 ; pass ; pass ; next ;";
        for (int good : new int[] {32, 10}) {
            String between = text.replace(" ", sign(good));
            blank.loads(between, 2).loads(sign(good) + between + sign(good), 2)
                    .loads(text.replace(" ", sign(good) + " \n"), 2);
        }
        for (int bad : new int[] {0, 9, 11, 12, 13, 31, 33, 32 + 128, 10 + 128, 255}) {
            blank.errs(sign(bad) + "round 12;", SYNTAX, 0).errs("round" + sign(bad) + "12;", SYNTAX, 5)
                    .errs("round 12" + sign(bad) + ";", SYNTAX, 8).errs("round 12;" + sign(bad), SYNTAX, 9);
        }
        blank.loads("round12 23 34,45;round11;left0;pass;pass;next;", 2);
    }

    private static void grammarOfText() {
        Sentence.terms("text  = round { round } { move \";\" }").errs("", SYNTAX, 0).errs("pass;", SYNTAX, 0)
                .errs(";", SYNTAX, 0).errs("12;", SYNTAX, 0).loads("round 12 23;", 1).loads(FOUR, 4)
                .loads("round 12 23;pass;", 1).loads("round 12 23;pass;pass;", 1)
                .errs("round 12 23;pass;round 11;", SYNTAX, 17).errs("round 12 23;;", SYNTAX, 12)
                .errs("round 12 23;pass", SYNTAX, 16).errs("round 12 23;pass,", SYNTAX, 16)
                .errs("round 12 23;12;", SYNTAX, 12);
        Sentence.terms("round = \"round\" chain { \",\" chain } \";\"").errs("round", SYNTAX, 5)
                .errs("round;", SYNTAX, 5).errs("round ,12;", SYNTAX, 6).loads("round 12;", 1)
                .errs("round 12", SYNTAX, 8)
                .errs("round 12,", SYNTAX, 9).errs("round 12,;", SYNTAX, 9).loads("round 12,23;", 1)
                .errs("round 12,23", SYNTAX, 11).errs("round 12,23,;", SYNTAX, 12).loads("round 12,23,34;", 1)
                .errs("round 12 round 23;", SYNTAX, 9).errs("round round 12;", SYNTAX, 6);
        Sentence.terms("chain = tile { tile }").errs("round ;", SYNTAX, 6).errs("round x;", SYNTAX, 6)
                .loads("round 12;", 1).loads("round 12 23;", 1).errs("round 12 x;", SYNTAX, 9)
                .errs("round 12, x;", SYNTAX, 10);
    }

    private static void grammarOfMoves() {
        Sentence move = Sentence.terms("move  = \"left\" number | \"right\" number | \"pass\" | \"next\"");
        for (String side : new String[] {"left", "right"}) {
            int end = 12 + side.length();
            move.loads("round 12 23;" + side + " 0;", 1).errs("round 12 23;" + side, SYNTAX, end)
                    .errs("round 12 23;" + side + ";", SYNTAX, end)
                    .errs("round 12 23;" + side + " pass;", SYNTAX, end + 1)
                    .errs("round 12 23;" + side + " 0 0;", SYNTAX, end + 3)
                    .errs("round 12 23;" + side + " 0,", SYNTAX, end + 2);
        }
        move.loads("round 12 23;pass;", 1).errs("round 12 23;pass 0;", SYNTAX, 17)
                .loads("round 12;round 11;next;", 2).errs("round 12;round 11;next 1;", SYNTAX, 23)
                .errs("round 12 23;lef 0;", SYNTAX, 12).errs("round 12 23;lefts 0;", SYNTAX, 12)
                .errs("round 12 23;righ 0;", SYNTAX, 12).errs("round 12 23;rights 0;", SYNTAX, 12)
                .errs("round 12 23;pas;", SYNTAX, 12).errs("round 12 23;passs;", SYNTAX, 12)
                .errs("round 12;round 11;nex;", SYNTAX, 18).errs("round 12;round 11;nextt;", SYNTAX, 18)
                .errs("round 12 23;0;", SYNTAX, 12).errs("round 12 23;undo;", SYNTAX, 12);
    }

    private static void tilesAndNumbers() {
        Sentence.terms("A tile is two digits 0 to 6, the left value before the right value")
                .answers("06, left", Start.text("round 06;"), game -> game.leftPips(0, 0), 0)
                .answers("06, right", Start.text("round 06;"), game -> game.rightPips(0, 0), 6)
                .answers("60, left", Start.text("round 60;"), game -> game.leftPips(0, 0), 6)
                .answers("60, right", Start.text("round 60;"), game -> game.rightPips(0, 0), 0)
                .errs("round 0;", SYNTAX, 6).loads("round 00;", 1).errs("round 000;", SYNTAX, 6)
                .loads("round 66;", 1).errs("round 67;", PIPS, 6).errs("round 76;", PIPS, 6);
        Sentence.terms("A number is one digit, the index of a chain")
                .answers("0", Start.text("round 12 23,11 14;left 0;"), game -> game.chainLength(0), 1)
                .answers("1", Start.text("round 12 23,11 14;left 1;"), game -> game.chainLength(1), 1)
                .errs("round 12 23,11 14;left 2;", MOVE, 23).errs("round 12 23,11 14;left 9;", MOVE, 23)
                .errs("round 12 23,11 14;left 00;", SYNTAX, 23).errs("round 12 23,11 14;left 01;", SYNTAX, 23)
                .errs("round 12 23,11 14;left -1;", SYNTAX, 23).errs("round 12 23,11 14;left ;", SYNTAX, 23);
    }

    private static void statements() {
        String text = "round 12 23 34;round 45;";
        Sentence.terms("The statements \"left\" and \"right\" burn a tile, \"pass\" is a pass, \"next\" starts the "
                + "next round")
                .same("left and pass, as played", View.state(Start.text(text + "left 0;pass;").game()),
                        View.state(Start.text(text).then(game -> game.burn(0, true), game -> game.pass()).game()))
                .answers("left", Start.text(text + "left 0;"), game -> game.leftPips(0, 0), 2)
                .answers("right", Start.text(text + "right 0;"), game -> game.leftPips(0, 0), 1)
                .answers("pass", Start.text(text + "pass;"), game -> game.passes(0), 1)
                .answers("no next", Start.text(text + "pass;pass;"), game -> game.currentRound(), 0)
                .answers("next", Start.text(text + "pass;pass;next;"), game -> game.currentRound(), 1);
        Sentence.terms("A statement takes effect at its semicolon")
                .errs("round 12 23;left 0", SYNTAX, 18).loads("round 12 23;left 0;", 1)
                .errs("round 12 23;left 0 left 0;", SYNTAX, 19).errs("round 12 23;left 0;left 0;", MOVE, 24)
                .errs("round 12 23;pass;pass pass;", SYNTAX, 22).errs("round 12 23;pass;pass;pass;", MOVE, 22)
                .errs("round 12 23;round 11;pass;pass next;", SYNTAX, 31)
                .loads("round 12 23;round 11;pass;pass;next;", 2)
                .errs("round 11;round 11;next next;", SYNTAX, 23).errs("round 11;round 11;next;next;", MOVE, 23);
    }

    private static void positions() {
        Sentence.terms("Parsing stops at the first token that is in error").errs("round 17 1;", PIPS, 6)
                .errs("round 12 34 47;", MISMATCH, 9).errs("round 12 21 17 x", DUPLICATE, 9)
                .errs("round 11,22,33,77", MANY, 14).errs("round 12 23;left 1;x", MOVE, 17)
                .errs("x round 17", SYNTAX, 0);
        Sentence.terms("Its error position is the index of its first byte;").errs("round 7;", SYNTAX, 6)
                .errs("round  789;", SYNTAX, 7).errs("round\n\n12 \n 99;", PIPS, 12).errs("  rounds", SYNTAX, 2)
                .errs("round 12 23;\nright  4", MOVE, 20);
        Sentence.terms("if the text ends too early, the error position is the length of the text")
                .errs("", SYNTAX, 0).errs(" ", SYNTAX, 1).errs("\n\n", SYNTAX, 2).errs("round", SYNTAX, 5)
                .errs("round ", SYNTAX, 6).errs("round 12", SYNTAX, 8).errs("round 12 ", SYNTAX, 9)
                .errs("round 12\n  ", SYNTAX, 11).errs("round 12,", SYNTAX, 9).errs("round 12 23;left", SYNTAX, 16)
                .errs("round 12 23;left 0  ", SYNTAX, 20).errs("round 12 23;pass ", SYNTAX, 17)
                .errs("round 12" + " ".repeat(492), SYNTAX, 500);
    }

    private static void severalKinds() {
        Sentence.terms("If several kinds of error apply to a token, the one with the smallest constant is reported")
                .errs("round 789;", SYNTAX, 6).errs("round 12 7;", SYNTAX, 9).errs("round 12 212;", SYNTAX, 9)
                .errs(EIGHT + " 7;", SYNTAX, 30).errs(EIGHT + " 645;", SYNTAX, 30)
                .errs("round 12 37;", PIPS, 9).errs("round 12 77;", PIPS, 9).errs(EIGHT + " 67;", PIPS, 30)
                .errs(EIGHT + " 57;", PIPS, 30).errs("round 12 12;", MISMATCH, 9).errs("round 12 23 12;", MISMATCH, 12)
                .errs(EIGHT + " 54;", MISMATCH, 30).errs(EIGHT + " 35;", MISMATCH, 30)
                .errs(EIGHT + " 65;", DUPLICATE, 30).errs(EIGHT + " 64;", MANY, 30)
                .errs(PASSED + "left 00;", SYNTAX, 27).errs(PASSED + "left 123;", SYNTAX, 27)
                .errs(PASSED + "left;", SYNTAX, 26).errs(PASSED + "passs", SYNTAX, 22)
                .errs(PASSED + "left 0;", MOVE, 27);
    }

    private static void syntaxErrors() {
        Sentence other = Sentence.terms("SYNTAX_ERROR: any other byte,");
        for (int number = 0; number < 256; number++) {
            String sign = sign(number);
            if (!sign.matches("[a-z0-9;, \n]")) {
                other.errs("round 12" + sign + ";", SYNTAX, 8);
            }
        }
        Sentence.terms("a word of more than 8 letters,").errs("round 12 23;abcdefg;", SYNTAX, 12)
                .errs("round 12 23;abcdefgh;", SYNTAX, 12).errs("round 12 23;abcdefghi;", SYNTAX, 12)
                .errs("roundabcd 12;", SYNTAX, 0).errs(FOUR + "roundabc", SYNTAX, 36)
                .errs(FOUR + "roundabcd", SYNTAX, 36)
                .errs(PASSED + "passabcde", SYNTAX, 22).errs("a".repeat(500), SYNTAX, 0);
        Sentence.terms("a run of more than 2 digits,").loads("round 11;", 1).errs("round 111;", SYNTAX, 6)
                .errs("round 1112;", SYNTAX, 6).errs("round 12 23;left 000;", SYNTAX, 17)
                .errs("round " + "1".repeat(494), SYNTAX, 6);
        Sentence.terms("a token that the grammar does not allow,").errs("left 0;", SYNTAX, 0)
                .errs("round 12 left 0;", SYNTAX, 9).errs("round 12 23;,", SYNTAX, 12)
                .errs("round 12 23;pass;round 11;", SYNTAX, 17);
        Sentence.terms("a run of 1 digit in place of a tile,").errs("round 1;", SYNTAX, 6).loads("round 12;", 1)
                .errs("round 12 2;", SYNTAX, 9).loads("round 12 23;", 1).errs("round 12,2;", SYNTAX, 9);
        Sentence.terms("a run of 2 digits in place of a number,").loads("round 12 23;left 0;", 1)
                .errs("round 12 23;left 00;", SYNTAX, 17).errs("round 12 23;right 12;", SYNTAX, 18)
                .errs("round 12 23;right 000;", SYNTAX, 18);
        Sentence.terms("or an early end of the text").errs("", SYNTAX, 0).errs("round 12", SYNTAX, 8)
                .loads("round 12;", 1).errs("round 12 23;pass", SYNTAX, 16).loads("round 12 23;pass;", 1)
                .loads("round 12;\n ", 1);
    }

    private static void invalidPips() {
        Sentence pips = Sentence.terms("INVALID_PIPS: a tile with a digit greater than 6");
        for (int digit = 0; digit <= 9; digit++) {
            if (digit <= 6) {
                pips.loads("round " + digit + "1;", 1).loads("round 1" + digit + ";", 1);
            } else {
                pips.errs("round " + digit + "1;", PIPS, 6).errs("round 1" + digit + ";", PIPS, 6)
                        .errs("round 11;round 12 2" + digit + ";", PIPS, 18);
            }
        }
    }

    private static void mismatch() {
        Sentence mismatch = Sentence.terms("MISMATCH: a tile, not the first one of its chain, whose left value "
                + "differs from the right value of the tile before it");
        for (int left = 0; left <= 6; left++) {
            if (left == 3) {
                mismatch.loads("round 03 35;", 1);
            } else {
                mismatch.errs("round 03 " + left + "5;", MISMATCH, 9).errs("round 12 23 " + left + "5;", MISMATCH, 12);
            }
        }
        mismatch.loads("round 12, 45;", 1).loads("round 12; round 45;", 2).errs("round 12, 45 45;", MISMATCH, 13);
    }

    private static void duplicates() {
        Sentence.terms("DUPLICATE_TILE: a tile that occurs earlier in the same round, perhaps with its values swapped")
                .errs("round 12 21;", DUPLICATE, 9).errs("round 11 11;", DUPLICATE, 9)
                .errs("round 12,12;", DUPLICATE, 9)
                .errs("round 12,21;", DUPLICATE, 9).errs("round 12 23 31 12;", DUPLICATE, 15)
                .errs("round 12,34,45 53 34;", DUPLICATE, 18).errs("round 66,65,56;", DUPLICATE, 12)
                .errs("round 00 01,33,10;", DUPLICATE, 15).loads("round 12;round 12;", 2).loads("round 12;round 21;", 2)
                .errs("round 12;round 21 12;", DUPLICATE, 18).loads("round 12 22 23;", 1).loads("round 56,66,55;", 1);
    }

    private static void everyTileTwice() {
        Sentence twice = Sentence.terms("DUPLICATE_TILE: a tile that occurs earlier in the same round");
        for (int left = 0; left <= 6; left++) {
            for (int right = left; right <= 6; right++) {
                String tile = left + "" + right;
                String swapped = right + "" + left;
                twice.errs("round " + tile + "," + tile + ";", DUPLICATE, 9)
                        .errs("round " + tile + "," + swapped + ";", DUPLICATE, 9)
                        .errs("round " + swapped + "," + tile + ";", DUPLICATE, 9)
                        .errs("round " + swapped + " " + tile + ";", DUPLICATE, 9)
                        .loads("round " + tile + ";round " + tile + ";", 2)
                        .loads("round " + tile + ";round " + swapped + ";", 2)
                        .loads("round " + swapped + ";round " + tile + ";", 2);
            }
        }
    }

    private static void tooMany() {
        Sentence.terms("TOO_MANY: the ninth tile of a chain,").loads("round 01 12 23 34 45 56 66;", 1)
                .loads(EIGHT + ";", 1).errs(EIGHT + " 64;", MANY, 30).errs(EIGHT + " 64 42;", MANY, 30)
                .loads(EIGHT + ",64 42;", 1).errs("round 03," + EIGHT.substring(6) + " 62;", MANY, 33);
        Sentence.terms("the comma before a fourth chain,").loads("round 11,22;", 1).loads("round 11,22,33;", 1)
                .errs("round 11,22,33,44;", MANY, 14).errs("round 11,22,33,", MANY, 14)
                .errs("round 11,22,33,;", MANY, 14)
                .errs("round 11;round 11,22,33 , 44;", MANY, 24).loads("round 11,22,33;round 11,22,33;", 2);
        Sentence.terms("the word \"round\" of a fifth round").loads(FOUR.substring(9), 3).loads(FOUR, 4)
                .errs(FOUR + "round 11;", MANY, 36).errs(FOUR + "round", MANY, 36).errs(FOUR + "round round", MANY, 36)
                .errs(FOUR + "rounds", SYNTAX, 36).errs(FOUR + "next;round", SYNTAX, 41)
                .loads(FOUR + "next;next;next;", 4);
    }

    private static void invalidMoves() {
        Sentence chain = Sentence.terms("INVALID_MOVE: the number of a burn if there is no such chain in the round,");
        for (String side : new String[] {"left", "right"}) {
            int number = side.length() + 1;
            chain.loads("round 12 23;" + side + " 0;", 1).errs("round 12 23;" + side + " 1;", MOVE, 12 + number)
                    .errs("round 12 23;" + side + " 9;", MOVE, 12 + number)
                    .loads("round 11,22,33 34;" + side + " 2;", 1)
                    .errs("round 11,22,33 34;" + side + " 3;", MOVE, 18 + number)
                    .loads("round 11;round 12,23 34;next;" + side + " 1;", 2)
                    .errs("round 11,12,13 33;round 12 23;pass;pass;next;" + side + " 1;", MOVE, 45 + number);
            Sentence.terms("if the chain has one tile,").loads("round 12 23 34;" + side + " 0;" + side + " 0;", 1)
                    .errs("round 11,12 23;" + side + " 0;", MOVE, 15 + number)
                    .loads("round 12 23,45 56;" + side + " 0;" + side + " 1;", 1)
                    .errs("round 12 23,45 56;" + side + " 0;" + side + " 0;", MOVE, 20 + 2 * number);
            Sentence.terms("or if the round is over;").loads("round 12 23;pass;" + side + " 0;", 1)
                    .errs(PASSED + side + " 0;", MOVE, 22 + number).errs("round 11;" + side + " 0;", MOVE, 9 + number)
                    .errs("round 12 23;" + side + " 0;left 0;", MOVE, 12 + number + 2 + 5);
        }
        Sentence.terms("the word \"pass\" if the round is over;").loads("round 12 23;pass;", 1)
                .loads("round 12 23;pass;pass;", 1).errs("round 12 23;pass;pass;pass;", MOVE, 22)
                .errs("round 12 23;left 0;pass;", MOVE, 19).loads("round 12 23 34;pass;left 0;pass;", 1)
                .errs("round 11;pass;", MOVE, 9).errs("round 11;pass", MOVE, 9);
        Sentence.terms("the word \"next\" if the round is not over or is the last one")
                .errs("round 12 23;round 11;next;", MOVE, 21).errs("round 12 23;round 11;pass;next;", MOVE, 26)
                .loads("round 12 23;round 11;pass;pass;next;", 2).loads("round 12 23;round 11;left 0;next;", 2)
                .errs("round 12 23;round 11;left 0;next;next;", MOVE, 33).errs("round 11;next;", MOVE, 9)
                .errs("round 12 23;next;", MOVE, 12).errs(FOUR + "next;next;next;next;", MOVE, 51)
                .errs(FOUR + "next;next;next;next", MOVE, 51);
    }
}
