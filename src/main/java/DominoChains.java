import java.util.NoSuchElementException;

/** A two-player game in which the players remove dominoes from the ends of chains. */
public final class DominoChains {
    public static final int NONE = -1;
    public static final int NO_ERROR = 0;
    public static final int SYNTAX_ERROR = 1;
    public static final int INVALID_PIPS = 2;
    public static final int MISMATCH = 3;
    public static final int DUPLICATE_TILE = 4;
    public static final int TOO_MANY = 5;
    public static final int INVALID_MOVE = 6;

    private static final int PLAYERS = 2;
    private static final int MOST_BYTES = 500;
    private static final int MOST_ROUNDS = 4;
    private static final int MOST_CHAINS = 3;
    private static final int MOST_TILES = 8;
    private static final int MOST_PIPS = 6;
    private static final int MOST_EDITS = 8;
    private static final int MOST_PLAYED = 30;
    // A round has at most 21 burns, and each can have one pass before it; two passes end the round.
    private static final int MOST_LOGGED = 42;
    // A chain of 8 tiles can be burnt down to 8 * 9 / 2 different spans of tiles.
    private static final int MOST_SPANS = 36;
    private static final int MOST_POSITIONS = MOST_SPANS * MOST_SPANS * MOST_SPANS;
    // A burn's code is twice its chain, plus 1 for the right end: codes ascend in the order of moves.
    private static final int PASS_CODE = 2 * MOST_CHAINS;

    private final int[] input;
    private int inputLength;
    private int faultKind;
    private int faultPosition;
    private final Parser parser;
    private final Match match;
    private final Match trial;
    private final Solver solver;
    private final History history;
    private final State saved;
    private boolean hasSaved;
    private final Text text;

    public DominoChains() {
        input = new int[MOST_BYTES];
        faultKind = NO_ERROR;
        faultPosition = NONE;
        parser = new Parser();
        match = new Match();
        trial = new Match();
        solver = new Solver();
        history = new History();
        saved = new State();
        text = new Text();
        match.setUpFirst();
    }

    // ---- parsing

    public int append(int w0, int w1, int w2, int w3, int w4) throws IllegalStateException {
        if (inputLength + 20 > MOST_BYTES) {
            throw new IllegalStateException("the input buffer is full");
        }
        addWord(w0);
        addWord(w1);
        addWord(w2);
        addWord(w3);
        addWord(w4);
        return inputLength;
    }

    private void addWord(int word) {
        for (int shift = 24; shift >= 0; shift -= 8) {
            put(input, inputLength, (word >>> shift) & 255);
            inputLength++;
        }
    }

    public void truncate(int length) throws IllegalArgumentException {
        if (length < 0 || length > inputLength) {
            throw new IllegalArgumentException("no such length");
        }
        inputLength = length;
    }

    public int load() throws IllegalArgumentException {
        boolean good = parser.readRounds(input, inputLength) && parser.readMoves();
        inputLength = 0;
        faultKind = parser.faultKind;
        faultPosition = parser.faultPosition;
        if (!good) {
            throw new IllegalArgumentException("the text has an error");
        }
        match.copyFrom(parser.draft);
        history.clear();
        hasSaved = false;
        solver.forget();
        return match.layout.rounds;
    }

    public int errorKind() {
        return faultKind;
    }

    public int errorPosition() {
        return faultPosition;
    }

    // ---- match

    public int roundCount() {
        return match.layout.rounds;
    }

    public int currentRound() {
        return match.state.round;
    }

    public boolean isRoundOver() {
        return match.state.over;
    }

    public boolean isMatchOver() {
        return match.isLastRound() && match.state.over;
    }

    public int roundWinner(int round) throws IndexOutOfBoundsException {
        needRound(round);
        return match.winnerOf(round);
    }

    public int roundsWon(int player) throws IndexOutOfBoundsException {
        needPlayer(player);
        return match.winsOf(player);
    }

    public int matchWinner() {
        if (!match.isLastRound() || !match.state.over) {
            return NONE;
        }
        int lead = match.winsOf(0) - match.winsOf(1);
        if (lead == 0) {
            lead = match.totalOf(0) - match.totalOf(1);
        }
        return leader(lead);
    }

    public int playerToMove() {
        return match.state.mover;
    }

    public int roundScore(int round, int player) throws IndexOutOfBoundsException {
        needRound(round);
        needPlayer(player);
        return match.scoreOf(round, player);
    }

    public int totalScore(int player) throws IndexOutOfBoundsException {
        needPlayer(player);
        return match.totalOf(player);
    }

    public int tilesBurnt(int player) throws IndexOutOfBoundsException {
        needPlayer(player);
        return at(match.state.burnt, player);
    }

    public int passes(int player) throws IndexOutOfBoundsException {
        needPlayer(player);
        return at(match.state.passed, player);
    }

    public double meanTileScore(int player) throws IndexOutOfBoundsException {
        needPlayer(player);
        int burnt = at(match.state.burnt, player);
        return burnt == 0 ? 0.0 : (double) match.totalOf(player) / (double) burnt;
    }

    // ---- chains of the present round

    public int chainCount() {
        return match.chainsNow();
    }

    public int chainLength(int chain) throws IndexOutOfBoundsException {
        needChain(chain);
        return match.lengthNow(chain);
    }

    public int leftPips(int chain, int tile) throws IndexOutOfBoundsException {
        needTile(chain, tile);
        return match.leftNow(chain, tile);
    }

    public int rightPips(int chain, int tile) throws IndexOutOfBoundsException {
        needTile(chain, tile);
        return match.rightNow(chain, tile);
    }

    public int tileScore(int chain, int tile) throws IndexOutOfBoundsException {
        needTile(chain, tile);
        return match.pointsNow(chain, tile);
    }

    public int chainScore(int chain) throws IndexOutOfBoundsException {
        needChain(chain);
        return match.pointsOfChain(chain);
    }

    public int remainingScore() {
        int sum = 0;
        for (int chain = 0; chain < match.chainsNow(); chain++) {
            sum += match.pointsOfChain(chain);
        }
        return sum;
    }

    public int tilesWith(int pips) throws IllegalArgumentException {
        if (pips < 0 || pips > MOST_PIPS) {
            throw new IllegalArgumentException("no such pip value");
        }
        int count = 0;
        for (int chain = 0; chain < match.chainsNow(); chain++) {
            for (int tile = 0; tile < match.lengthNow(chain); tile++) {
                if (match.leftNow(chain, tile) == pips || match.rightNow(chain, tile) == pips) {
                    count++;
                }
            }
        }
        return count;
    }

    public int doubleCount() {
        int count = 0;
        for (int chain = 0; chain < match.chainsNow(); chain++) {
            for (int tile = 0; tile < match.lengthNow(chain); tile++) {
                if (match.leftNow(chain, tile) == match.rightNow(chain, tile)) {
                    count++;
                }
            }
        }
        return count;
    }

    // ---- moves

    public int moveCount() {
        return match.movesNow();
    }

    public boolean isPass(int move) throws IndexOutOfBoundsException {
        return neededCode(move) == PASS_CODE;
    }

    public int moveChain(int move) throws IndexOutOfBoundsException {
        return chainOfCode(neededCode(move));
    }

    public boolean isLeftBurn(int move) throws IndexOutOfBoundsException {
        int code = neededCode(move);
        return code != PASS_CODE && isLeftCode(code);
    }

    public int moveScore(int move) throws IndexOutOfBoundsException {
        return match.pointsOfCode(neededCode(move));
    }

    public int loggedMoveCount() {
        return match.state.logged;
    }

    public int loggedScore(int index) throws IndexOutOfBoundsException {
        needLogged(index);
        return at(match.state.logPoints, index);
    }

    public int loggedChain(int index) throws IndexOutOfBoundsException {
        needLogged(index);
        return chainOfCode(at(match.state.logCodes, index));
    }

    public int highestEndScore() {
        int move = match.greediestMove();
        return move == NONE ? 0 : match.pointsOfCode(match.codeOfMove(move));
    }

    public int burnsLeft() {
        return match.burnsNow();
    }

    public int greatestPossibleScore(int player) throws IndexOutOfBoundsException {
        needPlayer(player);
        return match.greatestOf(player);
    }

    public boolean canStillWin(int player) throws IndexOutOfBoundsException {
        needPlayer(player);
        return match.greatestOf(player) > match.scoreNow(1 - player);
    }

    // ---- optimal play

    public int optimalDifference() {
        solver.solveOptimal(match);
        return solver.optimalOf(match);
    }

    public int moveValue(int move) throws IndexOutOfBoundsException {
        int code = neededCode(move);
        solver.solveOptimal(match);
        return solver.valueOf(match, code);
    }

    public int optimalMove() throws NoSuchElementException {
        if (match.state.over) {
            throw new NoSuchElementException("the round is over");
        }
        solver.solveOptimal(match);
        return firstBest(match);
    }

    public int worstMove() throws NoSuchElementException {
        if (match.state.over) {
            throw new NoSuchElementException("the round is over");
        }
        solver.solveOptimal(match);
        int worst = 0;
        int least = solver.valueOf(match, match.codeOfMove(0));
        for (int move = 1; move < match.movesNow(); move++) {
            int value = solver.valueOf(match, match.codeOfMove(move));
            if (value < least) {
                least = value;
                worst = move;
            }
        }
        return worst;
    }

    public int optimalMoveCount() {
        return countBest();
    }

    public boolean isPassForced() {
        if (match.state.over) {
            return false;
        }
        return countBest() == 1 && match.codeOfMove(firstBest(match)) == PASS_CODE;
    }

    public int optimalLineLength() {
        tryOptimalLine();
        return trial.state.logged - match.state.logged;
    }

    public int optimalLineScore(int index) throws IndexOutOfBoundsException {
        tryOptimalLine();
        int known = match.state.logged;
        if (index < 0 || index >= trial.state.logged - known) {
            throw new IndexOutOfBoundsException("no such move in the line");
        }
        return at(trial.state.logPoints, known + index);
    }

    public int chainDifference(int chain) throws IndexOutOfBoundsException {
        needChain(chain);
        solver.solveOptimal(match);
        return solver.optimalOfChain(match, chain);
    }

    public int expectedLead() {
        int player = match.state.mover;
        solver.solveOptimal(match);
        return match.scoreNow(player) - match.scoreNow(1 - player) + solver.optimalOf(match);
    }

    private int firstBest(Match which) {
        int best = 0;
        int most = solver.valueOf(which, which.codeOfMove(0));
        for (int move = 1; move < which.movesNow(); move++) {
            int value = solver.valueOf(which, which.codeOfMove(move));
            if (value > most) {
                most = value;
                best = move;
            }
        }
        return best;
    }

    private int countBest() {
        solver.solveOptimal(match);
        int most = solver.optimalOf(match);
        int count = 0;
        for (int move = 0; move < match.movesNow(); move++) {
            if (solver.valueOf(match, match.codeOfMove(move)) == most) {
                count++;
            }
        }
        return count;
    }

    // Wants the round solved already.
    private int playBest(Match which, int most) {
        int made = 0;
        while (made < most && !which.state.over) {
            which.play(which.codeOfMove(firstBest(which)));
            made++;
        }
        return made;
    }

    // The line is then what the trial's log has beyond the log of the match.
    private void tryOptimalLine() {
        solver.solveOptimal(match);
        trial.copyFrom(match);
        playBest(trial, MOST_LOGGED);
    }

    // ---- greedy player

    public int greedyMove() throws NoSuchElementException {
        int move = match.greediestMove();
        if (move == NONE) {
            throw new NoSuchElementException("the round is over");
        }
        return move;
    }

    public int greedyDifference() {
        trial.copyFrom(match);
        for (int made = 0; made < MOST_LOGGED && !trial.state.over; made++) {
            trial.play(trial.codeOfMove(trial.greediestMove()));
        }
        int player = match.state.mover;
        int gained = trial.scoreNow(player) - match.scoreNow(player);
        int lost = trial.scoreNow(1 - player) - match.scoreNow(1 - player);
        return gained - lost;
    }

    public int differenceAgainstGreedy() {
        if (match.state.over) {
            return 0;
        }
        solver.solveGreedy(match);
        return solver.againstGreedy(match);
    }

    public int greedyAgainstBest() {
        if (match.state.over) {
            return 0;
        }
        solver.solveGreedy(match);
        return -solver.behindGreedy(match);
    }

    // ---- edits

    public int burn(int chain, boolean left) throws IndexOutOfBoundsException, IllegalStateException {
        needChain(chain);
        if (match.state.over || match.lengthNow(chain) < 2) {
            throw new IllegalStateException("nothing can be burnt there");
        }
        int code = burnCode(chain, left);
        int points = match.pointsOfCode(code);
        history.remember(match.state);
        match.play(code);
        return points;
    }

    public boolean pass() throws IllegalStateException {
        if (match.state.over) {
            throw new IllegalStateException("the round is over");
        }
        history.remember(match.state);
        match.play(PASS_CODE);
        return match.state.over;
    }

    public int playOptimally(int most) throws IllegalArgumentException {
        if (most < 1 || most > MOST_PLAYED) {
            throw new IllegalArgumentException("no such number of moves");
        }
        history.remember(match.state);
        solver.solveOptimal(match);
        return playBest(match, most);
    }

    public int startNextRound() throws IllegalStateException {
        if (!match.state.over || match.isLastRound()) {
            throw new IllegalStateException("no round can be started");
        }
        history.remember(match.state);
        match.beginNext();
        return match.state.round;
    }

    public int undo() throws IllegalStateException {
        if (history.count == 0) {
            throw new IllegalStateException("there is no edit to undo");
        }
        history.takeBack(match.state);
        return history.count;
    }

    // ---- saved state

    public int save() {
        saved.copyFrom(match.state);
        hasSaved = true;
        return saved.logged;
    }

    public int restore() throws IllegalStateException {
        if (!hasSaved) {
            throw new IllegalStateException("there is no saved state");
        }
        history.remember(match.state);
        match.state.copyFrom(saved);
        return match.state.logged;
    }

    // ---- formatted text

    public int formatChain(int chain) throws IndexOutOfBoundsException {
        needChain(chain);
        text.length = 0;
        for (int tile = 0; tile < match.lengthNow(chain); tile++) {
            if (tile > 0) {
                text.add('-');
            }
            text.add('0' + match.leftNow(chain, tile));
            text.add('0' + match.rightNow(chain, tile));
        }
        return text.length;
    }

    public int formatLog() {
        text.showMoves(match.state, 0);
        return text.length;
    }

    public int formatOptimalLine() {
        tryOptimalLine();
        text.showMoves(trial.state, match.state.logged);
        return text.length;
    }

    public char formattedCharacter(int index) throws IndexOutOfBoundsException {
        if (index < 0 || index >= text.length) {
            throw new IndexOutOfBoundsException("no such character");
        }
        return (char) at(text.signs, index);
    }

    // ---- what the calls above share

    private void needPlayer(int player) {
        if (player < 0 || player >= PLAYERS) {
            throw new IndexOutOfBoundsException("no such player");
        }
    }

    private void needRound(int round) {
        if (round < 0 || round >= match.layout.rounds) {
            throw new IndexOutOfBoundsException("no such round");
        }
    }

    private void needChain(int chain) {
        if (chain < 0 || chain >= match.chainsNow()) {
            throw new IndexOutOfBoundsException("no such chain");
        }
    }

    private void needTile(int chain, int tile) {
        needChain(chain);
        if (tile < 0 || tile >= match.lengthNow(chain)) {
            throw new IndexOutOfBoundsException("no such tile");
        }
    }

    private void needLogged(int index) {
        if (index < 0 || index >= match.state.logged) {
            throw new IndexOutOfBoundsException("no such move in the log");
        }
    }

    private int neededCode(int move) {
        int code = match.codeOfMove(move);
        if (code == NONE) {
            throw new IndexOutOfBoundsException("no such move");
        }
        return code;
    }

    private static int burnCode(int chain, boolean left) {
        return left ? 2 * chain : 2 * chain + 1;
    }

    private static int chainOfCode(int code) {
        return code == PASS_CODE ? NONE : code >> 1;
    }

    private static boolean isLeftCode(int code) {
        return (code & 1) == 0;
    }

    private static int leader(int lead) {
        if (lead == 0) {
            return NONE;
        }
        return lead > 0 ? 0 : 1;
    }

    // Every row is read and written by these two, so that no index can leave its row.
    private static int at(int[] row, int index) {
        return index >= 0 && index < row.length ? row[index] : 0;
    }

    private static void put(int[] row, int index, int value) {
        if (index >= 0 && index < row.length) {
            row[index] = value;
        }
    }

    private static void copyRow(int[] from, int[] to) {
        System.arraycopy(from, 0, to, 0, Math.min(from.length, to.length));
    }

    /** The tiles of all rounds, as the text gives them; play does not change them. */
    private static final class Layout {
        int rounds;
        final int[] chains = new int[MOST_ROUNDS];
        final int[] lengths = new int[MOST_ROUNDS * MOST_CHAINS];
        final int[] lefts = new int[MOST_ROUNDS * MOST_CHAINS * MOST_TILES];
        final int[] rights = new int[MOST_ROUNDS * MOST_CHAINS * MOST_TILES];
        final int[] points = new int[MOST_ROUNDS * MOST_CHAINS * MOST_TILES];

        void copyFrom(Layout other) {
            rounds = other.rounds;
            copyRow(other.chains, chains);
            copyRow(other.lengths, lengths);
            copyRow(other.lefts, lefts);
            copyRow(other.rights, rights);
            copyRow(other.points, points);
        }

        void clear() {
            rounds = 0;
        }

        void openRound() {
            put(chains, rounds, 0);
            rounds++;
        }

        void openChain() {
            int round = rounds - 1;
            int chain = at(chains, round);
            put(lengths, round * MOST_CHAINS + chain, 0);
            put(chains, round, chain + 1);
        }

        void addTile(int left, int right) {
            int round = rounds - 1;
            int chain = at(chains, round) - 1;
            int length = lengthOf(round, chain);
            int slot = slotOf(round, chain, length);
            put(lefts, slot, left);
            put(rights, slot, right);
            put(points, slot, left == right ? 2 * (left + right) : left + right);
            put(lengths, round * MOST_CHAINS + chain, length + 1);
        }

        int lengthOf(int round, int chain) {
            return chain < at(chains, round) ? at(lengths, round * MOST_CHAINS + chain) : 0;
        }

        int slotOf(int round, int chain, int tile) {
            return (round * MOST_CHAINS + chain) * MOST_TILES + tile;
        }
    }

    /** All that moves change, and so all that undoing and restoring bring back. */
    private static final class State {
        int round;
        int starter;
        int mover;
        int passesInARow;
        boolean over;
        int logged;
        final int[] first = new int[MOST_CHAINS];
        final int[] last = new int[MOST_CHAINS];
        final int[] scores = new int[MOST_ROUNDS * PLAYERS];
        final int[] burnt = new int[PLAYERS];
        final int[] passed = new int[PLAYERS];
        final int[] logCodes = new int[MOST_LOGGED];
        final int[] logPoints = new int[MOST_LOGGED];

        void copyFrom(State other) {
            round = other.round;
            starter = other.starter;
            mover = other.mover;
            passesInARow = other.passesInARow;
            over = other.over;
            logged = other.logged;
            copyRow(other.first, first);
            copyRow(other.last, last);
            copyRow(other.scores, scores);
            copyRow(other.burnt, burnt);
            copyRow(other.passed, passed);
            copyRow(other.logCodes, logCodes);
            copyRow(other.logPoints, logPoints);
        }

        void clearCounts() {
            for (int i = 0; i < scores.length; i++) {
                scores[i] = 0;
            }
            for (int player = 0; player < PLAYERS; player++) {
                put(burnt, player, 0);
                put(passed, player, 0);
            }
        }

        void log(int code, int points) {
            if (logged < MOST_LOGGED) {
                put(logCodes, logged, code);
                put(logPoints, logged, points);
                logged++;
            }
        }
    }

    /** The rules: a layout and the state that play on it has reached. */
    private static final class Match {
        final Layout layout = new Layout();
        final State state = new State();

        void copyFrom(Match other) {
            layout.copyFrom(other.layout);
            state.copyFrom(other.state);
        }

        void setUpFirst() {
            layout.clear();
            layout.openRound();
            layout.openChain();
            layout.addTile(1, 2);
            layout.addTile(2, 6);
            layout.addTile(6, 3);
            layout.openChain();
            layout.addTile(0, 5);
            layout.addTile(5, 5);
            layout.addTile(5, 1);
            beginMatch();
        }

        void beginMatch() {
            state.clearCounts();
            beginRound(0, 0);
        }

        void beginRound(int round, int starter) {
            state.round = round;
            state.starter = starter;
            state.mover = starter;
            state.passesInARow = 0;
            state.logged = 0;
            for (int chain = 0; chain < MOST_CHAINS; chain++) {
                put(state.first, chain, 0);
                put(state.last, chain, Math.max(0, layout.lengthOf(round, chain) - 1));
            }
            state.over = burnsNow() == 0;
        }

        void beginNext() {
            int winner = leader(scoreNow(0) - scoreNow(1));
            beginRound(state.round + 1, winner == NONE ? state.starter : 1 - winner);
        }

        boolean isLastRound() {
            return state.round == layout.rounds - 1;
        }

        int chainsNow() {
            return at(layout.chains, state.round);
        }

        int lengthNow(int chain) {
            return at(state.last, chain) - at(state.first, chain) + 1;
        }

        int burnsNow() {
            int burns = 0;
            for (int chain = 0; chain < MOST_CHAINS; chain++) {
                burns += at(state.last, chain) - at(state.first, chain);
            }
            return burns;
        }

        private int slotNow(int chain, int tile) {
            return layout.slotOf(state.round, chain, at(state.first, chain) + tile);
        }

        int leftNow(int chain, int tile) {
            return at(layout.lefts, slotNow(chain, tile));
        }

        int rightNow(int chain, int tile) {
            return at(layout.rights, slotNow(chain, tile));
        }

        int pointsNow(int chain, int tile) {
            return at(layout.points, slotNow(chain, tile));
        }

        int pointsOfChain(int chain) {
            int sum = 0;
            for (int tile = 0; tile < lengthNow(chain); tile++) {
                sum += pointsNow(chain, tile);
            }
            return sum;
        }

        int leastOfChain(int chain) {
            int least = pointsNow(chain, 0);
            for (int tile = 1; tile < lengthNow(chain); tile++) {
                least = Math.min(least, pointsNow(chain, tile));
            }
            return least;
        }

        int scoreOf(int round, int player) {
            return at(state.scores, round * PLAYERS + player);
        }

        int scoreNow(int player) {
            return scoreOf(state.round, player);
        }

        int totalOf(int player) {
            int total = 0;
            for (int round = 0; round < layout.rounds; round++) {
                total += scoreOf(round, player);
            }
            return total;
        }

        int winnerOf(int round) {
            boolean over = round < state.round || round == state.round && state.over;
            return over ? leader(scoreOf(round, 0) - scoreOf(round, 1)) : NONE;
        }

        int winsOf(int player) {
            int wins = 0;
            for (int round = 0; round < layout.rounds; round++) {
                if (winnerOf(round) == player) {
                    wins++;
                }
            }
            return wins;
        }

        int greatestOf(int player) {
            int score = scoreNow(player);
            if (state.over) {
                return score;
            }
            for (int chain = 0; chain < chainsNow(); chain++) {
                score += pointsOfChain(chain) - leastOfChain(chain);
            }
            return score;
        }

        int movesNow() {
            if (state.over) {
                return 0;
            }
            int moves = 1;
            for (int chain = 0; chain < chainsNow(); chain++) {
                if (lengthNow(chain) > 1) {
                    moves += 2;
                }
            }
            return moves;
        }

        int codeOfMove(int move) {
            if (move < 0 || state.over) {
                return NONE;
            }
            int rest = move;
            for (int chain = 0; chain < chainsNow(); chain++) {
                if (lengthNow(chain) > 1) {
                    if (rest < 2) {
                        return burnCode(chain, rest == 0);
                    }
                    rest -= 2;
                }
            }
            return rest == 0 ? PASS_CODE : NONE;
        }

        int pointsOfCode(int code) {
            if (code == PASS_CODE) {
                return 0;
            }
            int chain = chainOfCode(code);
            int[] ends = isLeftCode(code) ? state.first : state.last;
            return at(layout.points, layout.slotOf(state.round, chain, at(ends, chain)));
        }

        int greediestMove() {
            int greediest = NONE;
            int most = NONE;
            // The last move is the pass, which a greedy player never makes.
            for (int move = 0; move < movesNow() - 1; move++) {
                int points = pointsOfCode(codeOfMove(move));
                if (points > most) {
                    most = points;
                    greediest = move;
                }
            }
            return greediest;
        }

        void play(int code) {
            int points = pointsOfCode(code);
            if (code == PASS_CODE) {
                put(state.passed, state.mover, at(state.passed, state.mover) + 1);
                state.passesInARow++;
            } else {
                takeEnd(code);
                int slot = state.round * PLAYERS + state.mover;
                put(state.scores, slot, at(state.scores, slot) + points);
                put(state.burnt, state.mover, at(state.burnt, state.mover) + 1);
                state.passesInARow = 0;
            }
            state.log(code, points);
            state.mover = 1 - state.mover;
            state.over = state.passesInARow > 1 || burnsNow() == 0;
        }

        private void takeEnd(int code) {
            int chain = chainOfCode(code);
            if (isLeftCode(code)) {
                put(state.first, chain, at(state.first, chain) + 1);
            } else {
                put(state.last, chain, at(state.last, chain) - 1);
            }
        }
    }

    /** The 8 latest states before an edit, in a ring that is used again and again. */
    private static final class History {
        final State[] kept = new State[MOST_EDITS];
        int count;
        int next;

        History() {
            for (int i = 0; i < kept.length; i++) {
                kept[i] = new State();
            }
        }

        void clear() {
            count = 0;
        }

        void remember(State state) {
            State slot = slotAt(next);
            if (slot != null) {
                slot.copyFrom(state);
            }
            next = next + 1 < MOST_EDITS ? next + 1 : 0;
            count = Math.min(count + 1, MOST_EDITS);
        }

        void takeBack(State state) {
            next = next > 0 ? next - 1 : MOST_EDITS - 1;
            State slot = slotAt(next);
            if (slot != null) {
                state.copyFrom(slot);
            }
            count--;
        }

        private State slotAt(int index) {
            return index >= 0 && index < kept.length ? kept[index] : null;
        }
    }

    /**
     * The values of all positions of one round. A position's number is made of the spans that its
     * chains have left, so numbered that a burn always leads to a lower number: one walk upwards
     * finds every value. What the move before was need not be told apart: with B the value of the
     * best burn, the optimal difference is max(B, 0) after a pass and max(B, -max(B, 0)), the same,
     * after a burn.
     */
    private static final class Solver {
        final int[] lowOfSpan = new int[MOST_SPANS];
        final int[] highOfSpan = new int[MOST_SPANS];
        final int[] points = new int[MOST_CHAINS * MOST_TILES];
        final int[] spanCounts = new int[MOST_CHAINS];
        final int[] weights = new int[MOST_CHAINS];
        final int[] spans = new int[MOST_CHAINS];
        final int[] optimal = new int[MOST_POSITIONS];
        // For the player who plays against a greedy one: with the own turn, and with the greedy one's.
        final int[] ahead = new int[MOST_POSITIONS];
        final int[] behind = new int[MOST_POSITIONS];
        int positions;
        int shapedRound = NONE;
        boolean hasOptimal;
        boolean hasGreedy;

        Solver() {
            int span = 0;
            for (int high = 0; high < MOST_TILES; high++) {
                for (int low = high; low >= 0; low--) {
                    if (span < lowOfSpan.length && span < highOfSpan.length) {
                        lowOfSpan[span] = low;
                        highOfSpan[span] = high;
                    }
                    span++;
                }
            }
        }

        void forget() {
            shapedRound = NONE;
        }

        void solveOptimal(Match match) {
            shape(match);
            if (hasOptimal) {
                return;
            }
            startWalk();
            for (int position = 0; position < positions; position++) {
                put(optimal, position, optimalHere(position));
                stepWalk();
            }
            hasOptimal = true;
        }

        void solveGreedy(Match match) {
            shape(match);
            if (hasGreedy) {
                return;
            }
            startWalk();
            for (int position = 0; position < positions; position++) {
                int waiting = behindHere(position);
                put(behind, position, waiting);
                put(ahead, position, aheadHere(position, waiting));
                stepWalk();
            }
            hasGreedy = true;
        }

        int optimalOf(Match match) {
            return match.state.over ? 0 : at(optimal, placeAt(match));
        }

        int optimalOfChain(Match match, int chain) {
            int span = spanOf(at(match.state.first, chain), at(match.state.last, chain));
            return at(optimal, span * at(weights, chain));
        }

        int valueOf(Match match, int code) {
            int position = placeAt(match);
            if (code == PASS_CODE) {
                return match.state.passesInARow > 0 ? 0 : -at(optimal, position);
            }
            int chain = chainOfCode(code);
            return isLeftCode(code) ? leftValue(position, chain) : rightValue(position, chain);
        }

        int againstGreedy(Match match) {
            int position = placeAt(match);
            return aheadHere(position, match.state.passesInARow > 0 ? 0 : at(behind, position));
        }

        int behindGreedy(Match match) {
            return at(behind, placeAt(match));
        }

        private void shape(Match match) {
            int round = match.state.round;
            if (shapedRound == round) {
                return;
            }
            positions = 1;
            for (int chain = MOST_CHAINS - 1; chain >= 0; chain--) {
                // A chain that the round does not have counts as one that is burnt down.
                int length = Math.max(1, match.layout.lengthOf(round, chain));
                put(spanCounts, chain, length * (length + 1) / 2);
                put(weights, chain, positions);
                positions *= at(spanCounts, chain);
                for (int tile = 0; tile < length; tile++) {
                    int slot = match.layout.slotOf(round, chain, tile);
                    put(points, chain * MOST_TILES + tile, at(match.layout.points, slot));
                }
            }
            shapedRound = round;
            hasOptimal = false;
            hasGreedy = false;
        }

        private int spanOf(int low, int high) {
            return high * (high + 1) / 2 + high - low;
        }

        private int placeAt(Match match) {
            int position = 0;
            for (int chain = 0; chain < MOST_CHAINS; chain++) {
                int span = spanOf(at(match.state.first, chain), at(match.state.last, chain));
                put(spans, chain, span);
                position += span * at(weights, chain);
            }
            return position;
        }

        private void startWalk() {
            for (int chain = 0; chain < MOST_CHAINS; chain++) {
                put(spans, chain, 0);
            }
        }

        private void stepWalk() {
            for (int chain = MOST_CHAINS - 1; chain >= 0; chain--) {
                int next = at(spans, chain) + 1;
                if (next < at(spanCounts, chain)) {
                    put(spans, chain, next);
                    return;
                }
                put(spans, chain, 0);
            }
        }

        private boolean isBurnable(int chain) {
            int span = at(spans, chain);
            return at(lowOfSpan, span) < at(highOfSpan, span);
        }

        private int leftPoints(int chain) {
            return at(points, chain * MOST_TILES + at(lowOfSpan, at(spans, chain)));
        }

        private int rightPoints(int chain) {
            return at(points, chain * MOST_TILES + at(highOfSpan, at(spans, chain)));
        }

        private int afterLeft(int position, int chain) {
            return position - at(weights, chain);
        }

        private int afterRight(int position, int chain) {
            return position - at(weights, chain) * (at(highOfSpan, at(spans, chain)) + 1);
        }

        private int optimalHere(int position) {
            int most = 0;
            for (int chain = 0; chain < MOST_CHAINS; chain++) {
                if (isBurnable(chain)) {
                    most = Math.max(most, leftValue(position, chain));
                    most = Math.max(most, rightValue(position, chain));
                }
            }
            return most;
        }

        private int leftValue(int position, int chain) {
            return leftPoints(chain) - at(optimal, afterLeft(position, chain));
        }

        private int rightValue(int position, int chain) {
            return rightPoints(chain) - at(optimal, afterRight(position, chain));
        }

        private int aheadHere(int position, int passValue) {
            int most = passValue;
            for (int chain = 0; chain < MOST_CHAINS; chain++) {
                if (isBurnable(chain)) {
                    most = Math.max(most, leftPoints(chain) + at(behind, afterLeft(position, chain)));
                    most = Math.max(most, rightPoints(chain) + at(behind, afterRight(position, chain)));
                }
            }
            return most;
        }

        private int behindHere(int position) {
            int most = NONE;
            int after = position;
            for (int chain = 0; chain < MOST_CHAINS; chain++) {
                if (isBurnable(chain) && leftPoints(chain) > most) {
                    most = leftPoints(chain);
                    after = afterLeft(position, chain);
                }
                if (isBurnable(chain) && rightPoints(chain) > most) {
                    most = rightPoints(chain);
                    after = afterRight(position, chain);
                }
            }
            return most == NONE ? 0 : at(ahead, after) - most;
        }
    }

    /** Cuts the input into tokens and stands at one of them. */
    private static final class Scanner {
        static final int END = 0;
        static final int WORD = 1;
        static final int DIGITS = 2;
        static final int COMMA = 3;
        static final int SEMICOLON = 4;
        static final int OTHER = 5;

        final int[] bytes = new int[MOST_BYTES];
        int end;
        int kind;
        int start;
        int next;

        void open(int[] input, int length) {
            copyRow(input, bytes);
            end = length;
            next = 0;
            step();
        }

        void step() {
            start = next;
            while (start < end && isBlank(at(bytes, start))) {
                start++;
            }
            next = start;
            kind = start < end ? kindOf(at(bytes, start)) : END;
            if (kind == WORD || kind == DIGITS) {
                while (next < end && kindOf(at(bytes, next)) == kind) {
                    next++;
                }
            } else if (kind != END) {
                next++;
            }
        }

        boolean isWord(String word) {
            if (kind != WORD || next - start != word.length()) {
                return false;
            }
            for (int i = 0; i < word.length(); i++) {
                if (at(bytes, start + i) != word.charAt(i)) {
                    return false;
                }
            }
            return true;
        }

        boolean isRun(int digits) {
            return kind == DIGITS && next - start == digits;
        }

        int digit(int index) {
            return at(bytes, start + index) - '0';
        }

        private static boolean isBlank(int sign) {
            return sign == ' ' || sign == '\n';
        }

        private static int kindOf(int sign) {
            if (sign >= 'a' && sign <= 'z') {
                return WORD;
            }
            if (sign >= '0' && sign <= '9') {
                return DIGITS;
            }
            if (sign == ',') {
                return COMMA;
            }
            return sign == ';' ? SEMICOLON : OTHER;
        }
    }

    /** Reads a text into a match of its own, so that a text in error leaves the game alone. */
    private static final class Parser {
        final Match draft = new Match();
        final Scanner scanner = new Scanner();
        // Marks the tiles of the open round, each in both directions.
        final int[] seen = new int[(MOST_PIPS + 1) * (MOST_PIPS + 1)];
        int openRight;
        int faultKind;
        int faultPosition;

        boolean readRounds(int[] input, int length) {
            faultKind = NO_ERROR;
            faultPosition = NONE;
            draft.layout.clear();
            scanner.open(input, length);
            if (!scanner.isWord("round")) {
                return fail(SYNTAX_ERROR);
            }
            for (int round = 0; round <= MOST_ROUNDS && scanner.isWord("round"); round++) {
                if (round == MOST_ROUNDS) {
                    return fail(TOO_MANY);
                }
                if (!readRound()) {
                    return false;
                }
            }
            return true;
        }

        boolean readMoves() {
            draft.beginMatch();
            // Every statement has bytes of its own, so this is more than a text can hold.
            for (int move = 0; move < MOST_BYTES && scanner.kind != Scanner.END; move++) {
                if (!readMove()) {
                    return false;
                }
            }
            return true;
        }

        private boolean readRound() {
            draft.layout.openRound();
            for (int i = 0; i < seen.length; i++) {
                seen[i] = 0;
            }
            for (int chain = 0; chain < MOST_CHAINS; chain++) {
                scanner.step();
                draft.layout.openChain();
                if (!readChain()) {
                    return false;
                }
                if (scanner.kind == Scanner.SEMICOLON) {
                    scanner.step();
                    return true;
                }
                if (scanner.kind != Scanner.COMMA) {
                    return fail(SYNTAX_ERROR);
                }
            }
            return fail(TOO_MANY);
        }

        private boolean readChain() {
            if (scanner.kind != Scanner.DIGITS) {
                return fail(SYNTAX_ERROR);
            }
            for (int tile = 0; tile <= MOST_TILES && scanner.kind == Scanner.DIGITS; tile++) {
                int fault = tileFault(tile);
                if (fault != NO_ERROR) {
                    return fail(fault);
                }
                takeTile(scanner.digit(0), scanner.digit(1));
                scanner.step();
            }
            return true;
        }

        private int tileFault(int tile) {
            if (!scanner.isRun(2)) {
                return SYNTAX_ERROR;
            }
            int left = scanner.digit(0);
            int right = scanner.digit(1);
            if (left > MOST_PIPS || right > MOST_PIPS) {
                return INVALID_PIPS;
            }
            if (tile > 0 && left != openRight) {
                return MISMATCH;
            }
            if (at(seen, pairOf(left, right)) != 0) {
                return DUPLICATE_TILE;
            }
            return tile < MOST_TILES ? NO_ERROR : TOO_MANY;
        }

        private void takeTile(int left, int right) {
            draft.layout.addTile(left, right);
            put(seen, pairOf(left, right), 1);
            put(seen, pairOf(right, left), 1);
            openRight = right;
        }

        private static int pairOf(int left, int right) {
            return left * (MOST_PIPS + 1) + right;
        }

        private boolean readMove() {
            if (scanner.isWord("left")) {
                return readBurn(true);
            }
            if (scanner.isWord("right")) {
                return readBurn(false);
            }
            if (scanner.isWord("pass")) {
                return readPass();
            }
            if (scanner.isWord("next")) {
                return readNext();
            }
            return fail(SYNTAX_ERROR);
        }

        private boolean readBurn(boolean left) {
            scanner.step();
            if (!scanner.isRun(1)) {
                return fail(SYNTAX_ERROR);
            }
            int chain = scanner.digit(0);
            if (draft.state.over || chain >= draft.chainsNow() || draft.lengthNow(chain) < 2) {
                return fail(INVALID_MOVE);
            }
            if (!readSemicolon()) {
                return false;
            }
            draft.play(burnCode(chain, left));
            return true;
        }

        private boolean readPass() {
            if (draft.state.over) {
                return fail(INVALID_MOVE);
            }
            if (!readSemicolon()) {
                return false;
            }
            draft.play(PASS_CODE);
            return true;
        }

        private boolean readNext() {
            if (!draft.state.over || draft.isLastRound()) {
                return fail(INVALID_MOVE);
            }
            if (!readSemicolon()) {
                return false;
            }
            draft.beginNext();
            return true;
        }

        // Steps over the statement's last token and over the semicolon behind it.
        private boolean readSemicolon() {
            scanner.step();
            if (scanner.kind != Scanner.SEMICOLON) {
                return fail(SYNTAX_ERROR);
            }
            scanner.step();
            return true;
        }

        private boolean fail(int kind) {
            faultKind = kind;
            faultPosition = scanner.start;
            return false;
        }
    }

    /** The formatted text. */
    private static final class Text {
        final int[] signs = new int[3 * MOST_LOGGED];
        int length;

        void add(int sign) {
            put(signs, length, sign);
            length++;
        }

        void showMoves(State state, int from) {
            length = 0;
            for (int move = from; move < state.logged; move++) {
                if (move > from) {
                    add(' ');
                }
                int code = at(state.logCodes, move);
                if (code == PASS_CODE) {
                    add('P');
                } else {
                    add(isLeftCode(code) ? 'L' : 'R');
                    add('0' + chainOfCode(code));
                }
            }
        }
    }
}
