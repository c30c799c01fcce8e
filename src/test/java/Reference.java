import java.util.ArrayDeque;
import java.util.ArrayList;
import java.util.Deque;
import java.util.HashMap;
import java.util.List;
import java.util.Map;
import java.util.NoSuchElementException;

/**
 * The document once more, word by word and without any of the program's shortcuts: positions are
 * lists of tiles, and every difference is searched for by its definition.
 */
final class Reference {
    /** A move: chain -1 is the pass. */
    private record Move(int chain, boolean left, int score) {
        String text() {
            return chain < 0 ? "P" : (left ? "L" : "R") + chain;
        }
    }

    private record Tile(int left, int right) {
        int score() {
            return (left + right) * (left == right ? 2 : 1);
        }

        boolean isSame(Tile other) {
            return equals(other) || left == other.right && right == other.left;
        }
    }

    private record Position(List<List<Tile>> chains, int passes) {
        boolean isOver() {
            return passes == 2 || chains.stream().allMatch(chain -> chain.size() == 1);
        }

        List<Move> moves() {
            List<Move> moves = new ArrayList<>();
            if (isOver()) {
                return moves;
            }
            for (int i = 0; i < chains.size(); i++) {
                List<Tile> chain = chains.get(i);
                if (chain.size() > 1) {
                    moves.add(new Move(i, true, chain.get(0).score()));
                    moves.add(new Move(i, false, chain.get(chain.size() - 1).score()));
                }
            }
            moves.add(new Move(-1, false, 0));
            return moves;
        }

        Position after(Move move) {
            if (move.chain < 0) {
                return new Position(chains, passes + 1);
            }
            List<List<Tile>> rest = new ArrayList<>(chains);
            List<Tile> chain = chains.get(move.chain);
            rest.set(move.chain, chain.subList(move.left ? 1 : 0, chain.size() - (move.left ? 0 : 1)));
            return new Position(rest, 0);
        }

        Move greedy() {
            Move best = null;
            for (Move move : moves()) {
                if (move.chain >= 0 && (best == null || move.score > best.score)) {
                    best = move;
                }
            }
            return best;
        }
    }

    private static final class State {
        int round;
        int mover;
        int starter;
        Position position;
        int[][] scores = new int[4][2];
        int[] burnt = new int[2];
        int[] passed = new int[2];
        List<Move> log = new ArrayList<>();

        State copy() {
            State copy = new State();
            copy.round = round;
            copy.mover = mover;
            copy.starter = starter;
            copy.position = position;
            for (int i = 0; i < 4; i++) {
                copy.scores[i] = scores[i].clone();
            }
            copy.burnt = burnt.clone();
            copy.passed = passed.clone();
            copy.log = new ArrayList<>(log);
            return copy;
        }

        void make(Move move) {
            if (move.chain < 0) {
                passed[mover]++;
            } else {
                burnt[mover]++;
                scores[round][mover] += move.score;
            }
            log.add(move);
            position = position.after(move);
            mover = 1 - mover;
        }

        void begin(List<List<List<Tile>>> rounds, int index, int first) {
            round = index;
            starter = first;
            mover = first;
            position = new Position(rounds.get(index), 0);
            log.clear();
        }

        void next(List<List<List<Tile>>> rounds) {
            int[] score = scores[round];
            begin(rounds, round + 1, score[0] == score[1] ? starter : score[0] < score[1] ? 0 : 1);
        }
    }

    private static final class Fault extends Exception {
        private static final long serialVersionUID = 1;
        final int kind;
        final int position;

        Fault(int kind, int position) {
            this.kind = kind;
            this.position = position;
        }
    }

    private String input = "";
    private int errorKind = 0;
    private int errorPosition = -1;
    private List<List<List<Tile>>> rounds;
    private State state;
    private State saved;
    private final Deque<State> edits = new ArrayDeque<>();
    private String text = "";
    private final Map<Position, Integer> optimal = new HashMap<>();
    private final Map<Position, Integer> against = new HashMap<>();

    Reference() {
        input = "round 12 26 63, 05 55 51;";
        load();
    }

    // ---- parsing

    private String token;
    private int tokenStart;
    private int tokenEnd;

    private static boolean isLetter(char c) {
        return c >= 'a' && c <= 'z';
    }

    private static boolean isDigit(char c) {
        return c >= '0' && c <= '9';
    }

    private void advance() {
        int i = tokenEnd;
        while (i < input.length() && (input.charAt(i) == ' ' || input.charAt(i) == '\n')) {
            i++;
        }
        tokenStart = i;
        if (i < input.length()) {
            char c = input.charAt(i++);
            while (i < input.length() && (isLetter(c) && isLetter(input.charAt(i))
                    || isDigit(c) && isDigit(input.charAt(i)))) {
                i++;
            }
        }
        tokenEnd = i;
        token = input.substring(tokenStart, tokenEnd);
    }

    private void want(boolean holds, int kind) throws Fault {
        if (!holds) {
            throw new Fault(kind, tokenStart);
        }
    }

    private List<List<List<Tile>>> parseRounds() throws Fault {
        List<List<List<Tile>>> found = new ArrayList<>();
        tokenEnd = 0;
        advance();
        want(token.equals("round"), 1);
        while (token.equals("round")) {
            want(found.size() < 4, 5);
            found.add(parseRound());
        }
        return found;
    }

    private List<List<Tile>> parseRound() throws Fault {
        List<List<Tile>> chains = new ArrayList<>();
        do {
            want(chains.size() < 3, 5);
            advance();
            chains.add(new ArrayList<>());
            parseChain(chains);
        } while (token.equals(","));
        want(token.equals(";"), 1);
        advance();
        return chains;
    }

    private void parseChain(List<List<Tile>> chains) throws Fault {
        List<Tile> chain = chains.get(chains.size() - 1);
        while (chain.isEmpty() || !token.isEmpty() && isDigit(token.charAt(0))) {
            want(token.matches("[0-9][0-9]"), 1);
            want(token.matches("[0-6][0-6]"), 2);
            Tile tile = new Tile(token.charAt(0) - '0', token.charAt(1) - '0');
            want(chain.isEmpty() || chain.get(chain.size() - 1).right == tile.left, 3);
            want(chains.stream().flatMap(List::stream).noneMatch(tile::isSame), 4);
            want(chain.size() < 8, 5);
            chain.add(tile);
            advance();
        }
    }

    private State parseMoves(List<List<List<Tile>>> found) throws Fault {
        State reached = new State();
        reached.begin(found, 0, 0);
        while (!token.isEmpty()) {
            String word = token;
            want(List.of("left", "right", "pass", "next").contains(word), 1);
            boolean over = reached.position.isOver();
            Move move = new Move(-1, false, 0);
            if (word.equals("pass")) {
                want(!over, 6);
            } else if (word.equals("next")) {
                want(over && reached.round + 1 < found.size(), 6);
            } else {
                advance();
                want(token.matches("[0-9]"), 1);
                int number = token.charAt(0) - '0';
                List<Move> moves = reached.position.moves();
                moves.removeIf(one -> one.chain != number || one.left != word.equals("left"));
                want(moves.size() == 1, 6);
                move = moves.get(0);
            }
            advance();
            want(token.equals(";"), 1);
            if (word.equals("next")) {
                reached.next(found);
            } else {
                reached.make(move);
            }
            advance();
        }
        return reached;
    }

    public int append(int w0, int w1, int w2, int w3, int w4) {
        if (input.length() + 20 > 500) {
            throw new IllegalStateException();
        }
        for (int word : new int[] {w0, w1, w2, w3, w4}) {
            input += "" + (char) (word >> 24 & 255) + (char) (word >> 16 & 255)
                    + (char) (word >> 8 & 255) + (char) (word & 255);
        }
        return input.length();
    }

    public void truncate(int length) {
        if (length < 0 || length > input.length()) {
            throw new IllegalArgumentException();
        }
        input = input.substring(0, length);
    }

    public int load() {
        try {
            List<List<List<Tile>>> found = parseRounds();
            state = parseMoves(found);
            rounds = found;
            errorKind = 0;
            errorPosition = -1;
            saved = null;
            edits.clear();
            optimal.clear();
            against.clear();
            return rounds.size();
        } catch (Fault fault) {
            errorKind = fault.kind;
            errorPosition = fault.position;
            throw new IllegalArgumentException();
        } finally {
            input = "";
        }
    }

    public int errorKind() {
        return errorKind;
    }

    public int errorPosition() {
        return errorPosition;
    }

    // ---- match

    private static void index(int index, int count) {
        if (index < 0 || index >= count) {
            throw new IndexOutOfBoundsException();
        }
    }

    public int roundCount() {
        return rounds.size();
    }

    public int currentRound() {
        return state.round;
    }

    public boolean isRoundOver() {
        return state.position.isOver();
    }

    public boolean isMatchOver() {
        return isRoundOver() && state.round == rounds.size() - 1;
    }

    public int roundWinner(int round) {
        index(round, rounds.size());
        if (round > state.round || round == state.round && !isRoundOver()) {
            return -1;
        }
        int[] score = state.scores[round];
        return score[0] == score[1] ? -1 : score[0] > score[1] ? 0 : 1;
    }

    public int roundsWon(int player) {
        index(player, 2);
        int won = 0;
        for (int i = 0; i < rounds.size(); i++) {
            won += roundWinner(i) == player ? 1 : 0;
        }
        return won;
    }

    public int matchWinner() {
        if (!isMatchOver()) {
            return -1;
        }
        if (roundsWon(0) != roundsWon(1)) {
            return roundsWon(0) > roundsWon(1) ? 0 : 1;
        }
        if (totalScore(0) != totalScore(1)) {
            return totalScore(0) > totalScore(1) ? 0 : 1;
        }
        return -1;
    }

    public int playerToMove() {
        return state.mover;
    }

    public int roundScore(int round, int player) {
        index(round, rounds.size());
        index(player, 2);
        return state.scores[round][player];
    }

    public int totalScore(int player) {
        index(player, 2);
        int sum = 0;
        for (int[] score : state.scores) {
            sum += score[player];
        }
        return sum;
    }

    public int tilesBurnt(int player) {
        index(player, 2);
        return state.burnt[player];
    }

    public int passes(int player) {
        index(player, 2);
        return state.passed[player];
    }

    public double meanTileScore(int player) {
        index(player, 2);
        return state.burnt[player] == 0 ? 0.0 : (double) totalScore(player) / state.burnt[player];
    }

    // ---- chains

    private List<Tile> chain(int chain) {
        index(chain, state.position.chains.size());
        return state.position.chains.get(chain);
    }

    private Tile tile(int chain, int tile) {
        index(tile, chain(chain).size());
        return chain(chain).get(tile);
    }

    public int chainCount() {
        return state.position.chains.size();
    }

    public int chainLength(int chain) {
        return chain(chain).size();
    }

    public int leftPips(int chain, int tile) {
        return tile(chain, tile).left;
    }

    public int rightPips(int chain, int tile) {
        return tile(chain, tile).right;
    }

    public int tileScore(int chain, int tile) {
        return tile(chain, tile).score();
    }

    public int chainScore(int chain) {
        return chain(chain).stream().mapToInt(Tile::score).sum();
    }

    private List<Tile> allTiles() {
        return state.position.chains.stream().flatMap(List::stream).toList();
    }

    public int remainingScore() {
        return allTiles().stream().mapToInt(Tile::score).sum();
    }

    public int tilesWith(int pips) {
        if (pips < 0 || pips > 6) {
            throw new IllegalArgumentException();
        }
        return (int) allTiles().stream().filter(tile -> tile.left == pips || tile.right == pips).count();
    }

    public int doubleCount() {
        return (int) allTiles().stream().filter(tile -> tile.left == tile.right).count();
    }

    // ---- moves

    private Move move(int move) {
        index(move, moveCount());
        return state.position.moves().get(move);
    }

    public int moveCount() {
        return state.position.moves().size();
    }

    public boolean isPass(int move) {
        return move(move).chain < 0;
    }

    public int moveChain(int move) {
        return move(move).chain;
    }

    public boolean isLeftBurn(int move) {
        return move(move).left;
    }

    public int moveScore(int move) {
        return move(move).score;
    }

    public int loggedMoveCount() {
        return state.log.size();
    }

    public int loggedScore(int index) {
        index(index, state.log.size());
        return state.log.get(index).score;
    }

    public int loggedChain(int index) {
        index(index, state.log.size());
        return state.log.get(index).chain;
    }

    public int highestEndScore() {
        return state.position.moves().stream().mapToInt(Move::score).max().orElse(0);
    }

    public int burnsLeft() {
        return allTiles().size() - chainCount();
    }

    public int greatestPossibleScore(int player) {
        index(player, 2);
        int score = state.scores[state.round][player];
        if (!isRoundOver()) {
            score += remainingScore();
            for (List<Tile> chain : state.position.chains) {
                score -= chain.stream().mapToInt(Tile::score).min().orElse(0);
            }
        }
        return score;
    }

    public boolean canStillWin(int player) {
        return greatestPossibleScore(player) > state.scores[state.round][1 - player];
    }

    // ---- optimal play

    private int optimal(Position position) {
        if (position.isOver()) {
            return 0;
        }
        Integer known = optimal.get(position);
        if (known == null) {
            int best = Integer.MIN_VALUE;
            for (Move move : position.moves()) {
                best = Math.max(best, value(position, move));
            }
            known = best;
            optimal.put(position, known);
        }
        return known;
    }

    private int value(Position position, Move move) {
        return move.score - optimal(position.after(move));
    }

    private List<Integer> values(Position position) {
        List<Integer> values = new ArrayList<>();
        for (Move move : position.moves()) {
            values.add(value(position, move));
        }
        return values;
    }

    private List<Move> line() {
        List<Move> line = new ArrayList<>();
        Position position = state.position;
        while (!position.isOver()) {
            List<Integer> values = values(position);
            Move move = position.moves().get(values.indexOf(values.stream().max(Integer::compare).get()));
            line.add(move);
            position = position.after(move);
        }
        return line;
    }

    public int optimalDifference() {
        return optimal(state.position);
    }

    public int moveValue(int move) {
        return value(state.position, move(move));
    }

    public int optimalMove() {
        List<Integer> values = values(state.position);
        return values.indexOf(values.stream().max(Integer::compare).orElseThrow(NoSuchElementException::new));
    }

    public int worstMove() {
        List<Integer> values = values(state.position);
        return values.indexOf(values.stream().min(Integer::compare).orElseThrow(NoSuchElementException::new));
    }

    public int optimalMoveCount() {
        List<Integer> values = values(state.position);
        int most = values.stream().max(Integer::compare).orElse(0);
        return (int) values.stream().filter(value -> value == most).count();
    }

    public boolean isPassForced() {
        return !isRoundOver() && optimalMove() == moveCount() - 1;
    }

    public int optimalLineLength() {
        return line().size();
    }

    public int optimalLineScore(int index) {
        List<Move> line = line();
        index(index, line.size());
        return line.get(index).score;
    }

    public int chainDifference(int chain) {
        return optimal(new Position(List.of(chain(chain)), 0));
    }

    public int expectedLead() {
        int[] score = state.scores[state.round];
        return score[state.mover] - score[1 - state.mover] + optimalDifference();
    }

    // ---- greedy player

    /** The best final difference, for the player to move, against an opponent who is greedy. */
    private int against(Position position) {
        if (position.isOver()) {
            return 0;
        }
        Integer known = against.get(position);
        if (known == null) {
            int best = Integer.MIN_VALUE;
            for (Move move : position.moves()) {
                Position next = position.after(move);
                int value = move.score;
                if (!next.isOver()) {
                    Move reply = next.greedy();
                    value += against(next.after(reply)) - reply.score;
                }
                best = Math.max(best, value);
            }
            known = best;
            against.put(position, known);
        }
        return known;
    }

    public int greedyMove() {
        if (isRoundOver()) {
            throw new NoSuchElementException();
        }
        return state.position.moves().indexOf(state.position.greedy());
    }

    public int greedyDifference() {
        int difference = 0;
        int sign = 1;
        Position position = state.position;
        while (!position.isOver()) {
            Move move = position.greedy();
            difference += sign * move.score;
            sign = -sign;
            position = position.after(move);
        }
        return difference;
    }

    public int differenceAgainstGreedy() {
        return against(state.position);
    }

    public int greedyAgainstBest() {
        if (isRoundOver()) {
            return 0;
        }
        Move move = state.position.greedy();
        return move.score - against(state.position.after(move));
    }

    // ---- edits

    private void edit() {
        edits.addLast(state.copy());
        if (edits.size() > 8) {
            edits.removeFirst();
        }
    }

    public int burn(int chain, boolean left) {
        index(chain, chainCount());
        for (Move move : state.position.moves()) {
            if (move.chain == chain && move.left == left) {
                edit();
                state.make(move);
                return move.score;
            }
        }
        throw new IllegalStateException();
    }

    public boolean pass() {
        if (isRoundOver()) {
            throw new IllegalStateException();
        }
        edit();
        state.make(new Move(-1, false, 0));
        return isRoundOver();
    }

    public int playOptimally(int most) {
        if (most < 1 || most > 30) {
            throw new IllegalArgumentException();
        }
        edit();
        List<Move> line = line();
        int made = Math.min(most, line.size());
        for (Move move : line.subList(0, made)) {
            state.make(move);
        }
        return made;
    }

    public int startNextRound() {
        if (!isRoundOver() || isMatchOver()) {
            throw new IllegalStateException();
        }
        edit();
        state.next(rounds);
        return state.round;
    }

    public int undo() {
        if (edits.isEmpty()) {
            throw new IllegalStateException();
        }
        state = edits.removeLast();
        return edits.size();
    }

    public int save() {
        saved = state.copy();
        return saved.log.size();
    }

    public int restore() {
        if (saved == null) {
            throw new IllegalStateException();
        }
        edit();
        state = saved.copy();
        return state.log.size();
    }

    // ---- formatted text

    private int format(List<String> parts, String between) {
        text = String.join(between, parts);
        return text.length();
    }

    public int formatChain(int chain) {
        return format(chain(chain).stream().map(tile -> "" + tile.left + tile.right).toList(), "-");
    }

    public int formatLog() {
        return format(state.log.stream().map(Move::text).toList(), " ");
    }

    public int formatOptimalLine() {
        return format(line().stream().map(Move::text).toList(), " ");
    }

    public char formattedCharacter(int index) {
        index(index, text.length());
        return text.charAt(index);
    }
}
