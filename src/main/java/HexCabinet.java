import java.util.Arrays;

/** A cabinet for hexagon chess: positions told as a game, and what can be said of them. */
public final class HexCabinet {
    private static final int CELLS = 91;
    private static final int RADIUS = 5;

    // The board lies in a square of 17 by 17 places, with three places of border all
    // round it, so that no step and no jump from a cell leads out of the square.
    private static final int SPAN = 17;
    private static final int MIDDLE = 8;
    private static final int PLACES = 289;
    private static final int NOWHERE = -1;

    // The place of each cell, a column a row.
    private static final int[] PLACE_OF_CELL = {
        59, 60, 61, 62, 63, 64,
        75, 76, 77, 78, 79, 80, 81,
        91, 92, 93, 94, 95, 96, 97, 98,
        107, 108, 109, 110, 111, 112, 113, 114, 115,
        123, 124, 125, 126, 127, 128, 129, 130, 131, 132,
        139, 140, 141, 142, 143, 144, 145, 146, 147, 148, 149,
        156, 157, 158, 159, 160, 161, 162, 163, 164, 165,
        173, 174, 175, 176, 177, 178, 179, 180, 181,
        190, 191, 192, 193, 194, 195, 196, 197,
        207, 208, 209, 210, 211, 212, 213,
        224, 225, 226, 227, 228, 229};
    private static final int[] FIRST_OF_COLUMN = {0, 6, 13, 21, 30, 40, 51, 61, 70, 78, 85};

    // A step by (p, q) is 17 * p + q places on: the six straight ones, then the slanting ones.
    private static final int STRAIGHT = 6;
    private static final int[] STEPS = {1, 17, 16, -1, -17, -16, 18, 33, 15, -18, -33, -15};
    private static final int[] JUMPS = {19, 35, 50, 49, 31, 14, -19, -35, -50, -49, -31, -14};

    // The steps by which a white pawn takes; those of a black one have both signs turned.
    private static final int[] TAKING_STEPS = {17, -16};

    private static final int WHITE = 0;
    private static final int BLACK = 1;
    private static final int NOBODY = -1;

    private static final int KING = 1;
    private static final int QUEEN = 2;
    private static final int ROOK = 3;
    private static final int BISHOP = 4;
    private static final int KNIGHT = 5;
    private static final int PAWN = 6;
    private static final int[] WORTH = {0, 0, 10, 5, 3, 4, 1};

    // What stands on a place: a piece, with 8 added for a black one, nothing, or it is border.
    private static final int OF_BLACK = 8;
    private static final int KIND_MASK = 7;
    private static final int NONE = 0;
    private static final int BORDER = -1;

    private static final int PLAIN = 0;
    private static final int CHECK = 1;
    private static final int MATE = 2;
    private static final int STALEMATE = 3;
    private static final int WORN_OUT = 4;
    private static final int UNPLAYABLE = 5;

    private static final int MOST_QUIET = 60;
    private static final int MOST_PIECES = 20;
    private static final int MOST_TARGETS = 42;
    private static final int MOST_MOVES = 840;
    // A tape has at most 100 moves, and the 511 calls behind it one each.
    private static final int MOST_MADE = 620;

    private static final int TAPE_SIZE = 2000;
    private static final int FEED_SIZE = 20;
    private static final int MOST_TOKENS = 400;
    private static final int LONGEST_WORD = 10;

    private static final int COUNTS = 11;
    private static final int CELL_FACTS = 6;

    private final Tape tape = new Tape();
    private final Reader reader = new Reader();
    private final Teacher teacher = new Teacher();
    private final Walk walk = new Walk();
    // A game is taught on the draft, so that one with an error leaves no trace.
    private Game game = new Game();
    private Game draft = new Game();
    private int errorPosition = NOWHERE;

    /** Creates an empty board with white on turn. */
    public HexCabinet() {
    }

    // ---- the language

    public int feed(int a, int b, int c, int d, int e) throws IllegalStateException {
        if (tape.size > TAPE_SIZE - FEED_SIZE) {
            throw new IllegalStateException("the tape is full");
        }
        tape.append(a);
        tape.append(b);
        tape.append(c);
        tape.append(d);
        tape.append(e);
        return tape.size;
    }

    public int trim(int n) throws IllegalArgumentException {
        if (n < 0 || n > tape.size) {
            throw new IllegalArgumentException("not a length within the tape");
        }
        tape.shorten(n);
        return n;
    }

    public int teach() {
        int position = reader.read(tape);
        int error = position == NOWHERE ? 0 : 1;
        if (error == 0) {
            draft.clear();
            error = teacher.carryOut(reader, draft);
            position = teacher.errorPosition;
        }
        if (error == 0) {
            Game old = game;
            game = draft;
            draft = old;
        }
        errorPosition = position;
        tape.shorten(0);
        return error;
    }

    public int errorAt() {
        return errorPosition;
    }

    public int count(int what) throws IndexOutOfBoundsException {
        if (what < 0 || what >= COUNTS) {
            throw new IndexOutOfBoundsException("no such count");
        }
        return countOf(what);
    }

    // ---- cells

    public int cell(int cell, int what) throws IndexOutOfBoundsException {
        if (!isCell(cell) || what < 0 || what >= CELL_FACTS) {
            throw new IndexOutOfBoundsException("no such cell, or nothing to tell of it");
        }
        return factOf(cell, what);
    }

    public int at(int column, int number) throws IndexOutOfBoundsException {
        int cell = cellNamed(column, number);
        if (cell == NOWHERE) {
            throw new IndexOutOfBoundsException("no cell has this name");
        }
        return cell;
    }

    public int name(int cell) throws IndexOutOfBoundsException {
        if (!isCell(cell)) {
            throw new IndexOutOfBoundsException("no such cell");
        }
        return nameOf(cell);
    }

    public int far(int piece, int from, int to) throws IllegalArgumentException, IndexOutOfBoundsException {
        if (piece < KING || piece > KNIGHT) {
            throw new IllegalArgumentException("not a piece from king to knight");
        }
        if (!isCell(from) || !isCell(to)) {
            throw new IndexOutOfBoundsException("no such cell");
        }
        return walk.fewestMoves(piece, placeOf(from), placeOf(to));
    }

    // ---- moves

    public boolean legal(int from, int to) throws IndexOutOfBoundsException {
        if (!isCell(from) || !isCell(to)) {
            throw new IndexOutOfBoundsException("no such cell");
        }
        return game.allows(from, to);
    }

    public int nth(int place) throws IndexOutOfBoundsException {
        if (place < 0 || place >= game.moveCount()) {
            throw new IndexOutOfBoundsException("no legal move there");
        }
        return game.moveAt(place);
    }

    public int move(int from, int to, int as)
            throws IndexOutOfBoundsException, IllegalArgumentException, IllegalStateException {
        if (!isCell(from) || !isCell(to)) {
            throw new IndexOutOfBoundsException("no such cell");
        }
        if (as < QUEEN || as > KNIGHT) {
            throw new IllegalArgumentException("a pawn does not become this");
        }
        if (game.isFull() || !game.allows(from, to)) {
            throw new IllegalStateException("no legal move");
        }
        return game.make(from, to, as);
    }

    public int back() throws IllegalStateException {
        if (game.made == 0) {
            throw new IllegalStateException("no move to take back");
        }
        game.takeBack();
        return game.made;
    }

    // ---- what could be

    public int lines(int depth) throws IllegalArgumentException {
        if (depth != 1 && depth != 2) {
            throw new IllegalArgumentException("neither 1 nor 2 deep");
        }
        return depth == 1 ? game.moveCount() : game.repliesToAll();
    }

    public int mate() {
        return game.firstMate();
    }

    public int greed() {
        return game.greediest();
    }

    public int hanging(int side) throws IndexOutOfBoundsException {
        if (side != WHITE && side != BLACK) {
            throw new IndexOutOfBoundsException("no such side");
        }
        return game.dearestHanging(side);
    }

    public double mean() {
        int pieces = game.board.pieces(game.turn);
        return pieces == 0 ? 0.0 : (double) game.moveCount() / pieces;
    }

    public long digest() {
        long d = 887;
        for (int what = 0; what < COUNTS; what++) {
            d = d * 31 + countOf(what);
        }
        for (int cell = 0; cell < CELLS; cell++) {
            d = d * 31 + factOf(cell, 0);
            d = d * 31 + factOf(cell, 1);
            d = d * 31 + factOf(cell, 4);
            d = d * 31 + factOf(cell, 5);
        }
        int moves = game.moveCount();
        for (int i = 0; i < moves; i++) {
            d = d * 31 + game.moveAt(i);
        }
        return d;
    }

    private int countOf(int what) {
        switch (what) {
            case 0: return game.made;
            case 1: return game.turn;
            case 2: return game.howItIs();
            case 3: return game.moveCount();
            case 4: return game.board.worth(WHITE);
            case 5: return game.board.worth(BLACK);
            case 6: return game.quiet;
            case 7: return game.pointsOf(WHITE);
            case 8: return game.pointsOf(BLACK);
            case 9: return game.passingCell();
            default: return tape.size;
        }
    }

    private int factOf(int cell, int what) {
        switch (what) {
            case 0: return kindOf(game.valueOn(cell));
            case 1: return sideOf(game.valueOn(cell));
            case 2: return colourOf(cell);
            case 3: return game.movesFrom(cell);
            case 4: return game.attackersOf(cell, WHITE);
            default: return game.attackersOf(cell, BLACK);
        }
    }

    private static int placeOf(int cell) {
        return cell >= 0 && cell < PLACE_OF_CELL.length ? PLACE_OF_CELL[cell] : NOWHERE;
    }

    private static int cellOf(int place) {
        if (place < 0) {
            return NOWHERE;
        }
        int column = xOf(place) + RADIUS;
        return cellNamed(column, yOf(place) - lowest(column) + 1);
    }

    /** The y of the lowest cell of a column. */
    private static int lowest(int column) {
        return column < RADIUS ? -column : -RADIUS;
    }

    private static int columnSize(int column) {
        return column < RADIUS ? column + 6 : 16 - column;
    }

    /** The cell with this name, -1 for none. */
    private static int cellNamed(int column, int number) {
        if (column < 0 || column >= FIRST_OF_COLUMN.length) {
            return NOWHERE;
        }
        return number < 1 || number > columnSize(column) ? NOWHERE : FIRST_OF_COLUMN[column] + number - 1;
    }

    private static int nameOf(int cell) {
        int place = placeOf(cell);
        int column = xOf(place) + RADIUS;
        return 100 * column + yOf(place) - lowest(column) + 1;
    }

    private static int colourOf(int cell) {
        int place = placeOf(cell);
        return (xOf(place) - yOf(place) + 30) % 3;
    }

    private static boolean isCell(int cell) {
        return cell >= 0 && cell < CELLS;
    }

    private static int valueOf(int side, int kind) {
        return side == BLACK ? kind + OF_BLACK : kind;
    }

    private static int kindOf(int value) {
        return value <= NONE ? NONE : value & KIND_MASK;
    }

    private static int sideOf(int value) {
        if (value <= NONE) {
            return NOBODY;
        }
        return value < OF_BLACK ? WHITE : BLACK;
    }

    private static int worthOfKind(int kind) {
        return kind >= 0 && kind < WORTH.length ? WORTH[kind] : 0;
    }

    /** The step by which a pawn of this side goes. */
    private static int forward(int side) {
        return side == WHITE ? 1 : -1;
    }

    private static int xOf(int place) {
        return place / SPAN - MIDDLE;
    }

    private static int yOf(int place) {
        return place % SPAN - MIDDLE;
    }

    /** The black first cells are the white ones with both signs turned. Calls no other method: it stands eight deep. */
    private static boolean isFirstPlace(int place, int side) {
        int sign = side == WHITE ? 1 : -1;
        int x = (place / SPAN - MIDDLE) * sign;
        int y = (place % SPAN - MIDDLE) * sign;
        return x >= -4 && x <= 4 && y == (x > 0 ? -1 - x : -1);
    }

    private static int[] stepsOf(int kind) {
        return kind == KNIGHT ? JUMPS : STEPS;
    }

    private static int firstStepOf(int kind) {
        return kind == BISHOP ? STRAIGHT : 0;
    }

    /** The index behind that of the last step. */
    private static int lastStepOf(int kind) {
        return kind == ROOK ? STRAIGHT : STEPS.length;
    }

    /** Whether a piece goes by the steps of this index, one of them or any number. */
    private static boolean goesBy(int kind, int index, boolean once) {
        return kind == QUEEN || kind == (index < STRAIGHT ? ROOK : BISHOP) || kind == KING && once;
    }

    private static int reachOf(int kind) {
        return kind == KING || kind == KNIGHT ? 1 : SPAN;
    }

    /** The pieces on their places, and what they attack. */
    private static final class Board {
        private final int[] values = new int[PLACES];
        private int whiteKing = NOWHERE;
        private int blackKing = NOWHERE;

        private Board() {
            clear();
        }

        private void clear() {
            Arrays.fill(values, BORDER);
            for (int cell = 0; cell < CELLS; cell++) {
                int place = placeOf(cell);
                if (place >= 0 && place < values.length) {
                    values[place] = NONE;
                }
            }
            whiteKing = NOWHERE;
            blackKing = NOWHERE;
        }

        private int on(int place) {
            return place >= 0 && place < values.length ? values[place] : BORDER;
        }

        private void set(int place, int value) {
            if (place < 0 || place >= values.length || values[place] == BORDER) {
                return;
            }
            values[place] = value;
            if (place == whiteKing) {
                whiteKing = NOWHERE;
            }
            if (place == blackKing) {
                blackKing = NOWHERE;
            }
            if (value == KING) {
                whiteKing = place;
            }
            if (value == KING + OF_BLACK) {
                blackKing = place;
            }
        }

        private int kingOf(int side) {
            return side == WHITE ? whiteKing : blackKing;
        }

        /** The first place on the way by this step that is not empty: one with a piece, or border. */
        private int firstTaken(int place, int step) {
            int next = place + step;
            for (int k = 0; k < SPAN; k++) {
                if (next < 0 || next >= values.length || values[next] != NONE) {
                    break;
                }
                next += step;
            }
            return next;
        }

        /** How many pieces of a side attack a place. */
        private int attackers(int place, int side) {
            int number = 0;
            for (int i = 0; i < STEPS.length; i++) {
                int first = firstTaken(place, STEPS[i]);
                int value = on(first);
                if (sideOf(value) == side && goesBy(kindOf(value), i, first == place + STEPS[i])) {
                    number++;
                }
            }
            int knight = valueOf(side, KNIGHT);
            for (int i = 0; i < JUMPS.length; i++) {
                if (on(place + JUMPS[i]) == knight) {
                    number++;
                }
            }
            int pawn = valueOf(side, PAWN);
            for (int i = 0; i < TAKING_STEPS.length; i++) {
                if (on(place - TAKING_STEPS[i] * forward(side)) == pawn) {
                    number++;
                }
            }
            return number;
        }

        private int pieces(int side) {
            int number = 0;
            for (int cell = 0; cell < CELLS; cell++) {
                if (sideOf(on(placeOf(cell))) == side) {
                    number++;
                }
            }
            return number;
        }

        private int worth(int side) {
            int worth = 0;
            for (int cell = 0; cell < CELLS; cell++) {
                int value = on(placeOf(cell));
                if (sideOf(value) == side) {
                    worth += worthOfKind(kindOf(value));
                }
            }
            return worth;
        }

        /** The set-up of both sides: black stands in the same columns, counted from above. */
        private void setUp() {
            clear();
            for (int cell = 0; cell < CELLS; cell++) {
                int place = placeOf(cell);
                if (isFirstPlace(place, WHITE)) {
                    set(place, valueOf(WHITE, PAWN));
                }
                if (isFirstPlace(place, BLACK)) {
                    set(place, valueOf(BLACK, PAWN));
                }
            }
            setBoth(ROOK, 2, 1);
            setBoth(KNIGHT, 3, 1);
            setBoth(QUEEN, 4, 1);
            setBoth(BISHOP, 5, 1);
            setBoth(BISHOP, 5, 2);
            setBoth(BISHOP, 5, 3);
            setBoth(KING, 6, 1);
            setBoth(KNIGHT, 7, 1);
            setBoth(ROOK, 8, 1);
        }

        private void setBoth(int kind, int column, int number) {
            int mirrored = columnSize(column) + 1 - number;
            set(placeOf(cellNamed(column, number)), valueOf(WHITE, kind));
            set(placeOf(cellNamed(column, mirrored)), valueOf(BLACK, kind));
        }
    }

    /** A position with its rules, and the moves that can be taken back. */
    private static final class Game {
        private final Board board = new Board();
        private int turn = WHITE;
        private int quiet = 0;
        private int passing = NOWHERE;

        private final long[] history = new long[MOST_MADE];
        private int made = 0;

        // The legal moves, quiet moves left aside, as they were listed for this position.
        private final int[] moves = new int[MOST_MOVES];
        private int listedMoves = 0;
        private boolean listed = false;

        private final int[] targets = new int[MOST_TARGETS];
        private int targetCount = 0;

        // What is known of the king of the side on turn, while its moves are tried.
        private final int[] pinned = new int[STEPS.length];
        private int pinnedCount = 0;
        private boolean checked = false;

        private void clear() {
            board.clear();
            turn = WHITE;
            startAnew();
        }

        private void setUp() {
            board.setUp();
            turn = WHITE;
            startAnew();
        }

        private void put(int side, int kind, int cell) {
            board.set(placeOf(cell), valueOf(side, kind));
            startAnew();
        }

        private void giveTurn(int side) {
            turn = side;
            startAnew();
        }

        private void startAnew() {
            quiet = 0;
            passing = NOWHERE;
            made = 0;
            listed = false;
        }

        private int valueOn(int cell) {
            return board.on(placeOf(cell));
        }

        private int attackersOf(int cell, int side) {
            return board.attackers(placeOf(cell), side);
        }

        private boolean hasKing(int side) {
            return board.kingOf(side) != NOWHERE;
        }

        private int passingCell() {
            return cellOf(passing);
        }

        private boolean isPlayable() {
            return hasKing(WHITE) && hasKing(BLACK) && board.attackers(board.kingOf(1 - turn), turn) == 0;
        }

        /** Whether the king of a side is attacked. */
        private boolean isAttacked(int side) {
            return board.attackers(board.kingOf(side), 1 - side) > 0;
        }

        private int howItIs() {
            if (!isPlayable()) {
                return UNPLAYABLE;
            }
            listMoves();
            boolean attacked = isAttacked(turn);
            if (listedMoves == 0) {
                return attacked ? MATE : STALEMATE;
            }
            if (quiet >= MOST_QUIET) {
                return WORN_OUT;
            }
            return attacked ? CHECK : PLAIN;
        }

        private int pointsOf(int side) {
            switch (howItIs()) {
                case MATE: return side == turn ? 0 : 4;
                case STALEMATE: return side == turn ? 1 : 3;
                case WORN_OUT: return 2;
                default: return 0;
            }
        }

        // ---- the moves there are

        private int moveCount() {
            listMoves();
            return openMoves();
        }

        /** How many of the listed moves are open: none, if it is over by quiet moves. */
        private int openMoves() {
            return quiet >= MOST_QUIET ? 0 : listedMoves;
        }

        private int moveAt(int index) {
            return index >= 0 && index < moves.length ? moves[index] : NOWHERE;
        }

        private int movesFrom(int cell) {
            listMoves();
            int number = 0;
            int total = openMoves();
            for (int i = 0; i < total; i++) {
                if (moveAt(i) / CELLS == cell) {
                    number++;
                }
            }
            return number;
        }

        private boolean allows(int from, int to) {
            listMoves();
            int total = openMoves();
            for (int i = 0; i < total; i++) {
                if (moveAt(i) == from * CELLS + to) {
                    return true;
                }
            }
            return false;
        }

        private void listMoves() {
            if (listed) {
                return;
            }
            listed = true;
            listedMoves = 0;
            if (!isPlayable()) {
                return;
            }
            lookAtKing();
            for (int cell = 0; cell < CELLS; cell++) {
                int from = placeOf(cell);
                gatherTargets(from);
                sortTargets();
                for (int i = 0; i < targetCount && i < targets.length; i++) {
                    if (isSafe(from, targets[i]) && listedMoves >= 0 && listedMoves < moves.length) {
                        moves[listedMoves] = cell * CELLS + cellOf(targets[i]);
                        listedMoves++;
                    }
                }
            }
        }

        /** Counts the legal moves of a playable position, no further than enough; quiet moves are left aside. */
        private int countMoves(int enough) {
            lookAtKing();
            int number = 0;
            for (int cell = 0; cell < CELLS && number < enough; cell++) {
                int from = placeOf(cell);
                gatherTargets(from);
                for (int i = 0; i < targetCount && i < targets.length; i++) {
                    if (isSafe(from, targets[i])) {
                        number++;
                    }
                }
            }
            return Math.min(number, enough);
        }

        /** Places rise as cells do, so that their order is that of the moves. */
        private void sortTargets() {
            for (int i = 1; i < targetCount && i < targets.length; i++) {
                int target = targets[i];
                int j = i;
                for (; j > 0 && targets[j - 1] > target; j--) {
                    targets[j] = targets[j - 1];
                }
                targets[j] = target;
            }
        }

        /** Gathers where the piece there can go, if it is of the side on turn, its own king left aside. */
        private void gatherTargets(int from) {
            targetCount = 0;
            int value = board.on(from);
            if (sideOf(value) != turn) {
                return;
            }
            int kind = kindOf(value);
            if (kind == PAWN) {
                gatherForPawn(from);
                return;
            }
            int[] steps = stepsOf(kind);
            int end = Math.min(lastStepOf(kind), steps.length);
            int reach = reachOf(kind);
            for (int i = firstStepOf(kind); i < end; i++) {
                int to = from + steps[i];
                for (int k = 0; k < reach && offer(to); k++) {
                    to += steps[i];
                }
            }
        }

        /** Takes the place as a target, if it can be one, and tells whether it is empty. */
        private boolean offer(int to) {
            int value = board.on(to);
            if (value != BORDER && sideOf(value) != turn) {
                keepTarget(to);
            }
            return value == NONE;
        }

        private void gatherForPawn(int from) {
            int ahead = from + forward(turn);
            if (board.on(ahead) == NONE) {
                keepTarget(ahead);
                int beyond = ahead + forward(turn);
                if (isFirstPlace(from, turn) && board.on(beyond) == NONE) {
                    keepTarget(beyond);
                }
            }
            for (int i = 0; i < TAKING_STEPS.length; i++) {
                int to = from + TAKING_STEPS[i] * forward(turn);
                if (to == passing || sideOf(board.on(to)) == 1 - turn) {
                    keepTarget(to);
                }
            }
        }

        private void keepTarget(int to) {
            if (targetCount >= 0 && targetCount < targets.length) {
                targets[targetCount] = to;
                targetCount++;
            }
        }

        /** Finds whether the king of the side on turn is attacked, and which pieces alone shield it. */
        private void lookAtKing() {
            int king = board.kingOf(turn);
            checked = board.attackers(king, 1 - turn) > 0;
            pinnedCount = 0;
            for (int i = 0; i < STEPS.length; i++) {
                int shield = board.firstTaken(king, STEPS[i]);
                int behind = board.on(board.firstTaken(shield, STEPS[i]));
                if (sideOf(board.on(shield)) == turn && sideOf(behind) == 1 - turn
                        && goesBy(kindOf(behind), i, false) && pinnedCount >= 0 && pinnedCount < pinned.length) {
                    pinned[pinnedCount] = shield;
                    pinnedCount++;
                }
            }
        }

        private boolean isPinned(int place) {
            for (int i = 0; i < pinnedCount && i < pinned.length; i++) {
                if (pinned[i] == place) {
                    return true;
                }
            }
            return false;
        }

        /** Whether the own king is not attacked behind this move: most moves need not be tried for that. */
        private boolean isSafe(int from, int to) {
            if (!checked && from != board.kingOf(turn) && to != passing && !isPinned(from)) {
                return true;
            }
            long step = play(from, to, QUEEN);
            boolean safe = board.attackers(board.kingOf(1 - turn), turn) == 0;
            undo(step);
            return safe;
        }

        // ---- making moves

        /** Plays a move, and returns all that undo needs, in one number. */
        private long play(int from, int to, int as) {
            int went = board.on(from);
            boolean pawn = kindOf(went) == PAWN;
            boolean last = pawn && board.on(to + forward(turn)) == BORDER;
            // What is taken in passing stands one step behind the cell on which it is taken.
            int struck = pawn && to == passing ? to - forward(turn) : to;
            int taken = board.on(struck);
            long step = from | to << 9 | struck << 18;
            step |= (long) (went | taken << 4 | quiet << 8) << 27 | (long) (passing + 1) << 43;
            board.set(struck, NONE);
            board.set(from, NONE);
            board.set(to, last ? valueOf(turn, as) : went);
            quiet = pawn || taken != NONE ? 0 : quiet + 1;
            passing = pawn && to == from + 2 * forward(turn) ? from + forward(turn) : NOWHERE;
            turn = 1 - turn;
            return step;
        }

        private void undo(long step) {
            int to = (int) (step >> 9 & 511);
            board.set(to, NONE);
            board.set((int) (step >> 18 & 511), valueTaken(step));
            board.set((int) (step & 511), (int) (step >> 27 & 15));
            quiet = (int) (step >> 35 & 255);
            passing = (int) (step >> 43 & 511) - 1;
            turn = 1 - turn;
        }

        private static int valueTaken(long step) {
            return (int) (step >> 31 & 15);
        }

        private boolean isFull() {
            return made >= history.length;
        }

        private int make(int from, int to, int as) {
            long step = play(placeOf(from), placeOf(to), as);
            if (made >= 0 && made < history.length) {
                history[made] = step;
                made++;
            }
            listed = false;
            return kindOf(valueTaken(step));
        }

        private void takeBack() {
            if (made > 0 && made <= history.length) {
                made--;
                undo(history[made]);
                listed = false;
            }
        }

        /** Whether a pawn comes to its last cell by this move. */
        private boolean comesToLast(int from, int to) {
            int value = valueOn(from);
            return kindOf(value) == PAWN && board.on(placeOf(to) + forward(sideOf(value))) == BORDER;
        }

        // ---- what could be

        private long playListed(int index) {
            int move = moveAt(index);
            return play(placeOf(move / CELLS), placeOf(move % CELLS), QUEEN);
        }

        private int repliesToAll() {
            int replies = 0;
            int total = moveCount();
            for (int i = 0; i < total; i++) {
                long step = playListed(i);
                if (quiet < MOST_QUIET) {
                    replies += countMoves(MOST_MOVES);
                }
                undo(step);
            }
            return replies;
        }

        private int firstMate() {
            int total = moveCount();
            for (int i = 0; i < total; i++) {
                long step = playListed(i);
                boolean mate = isAttacked(turn) && countMoves(1) == 0;
                undo(step);
                if (mate) {
                    return moveAt(i);
                }
            }
            return NOWHERE;
        }

        private int greediest() {
            int best = NOWHERE;
            int mostGain = 0;
            int total = moveCount();
            for (int i = 0; i < total; i++) {
                int gain = gainOf(i);
                if (best == NOWHERE || gain > mostGain) {
                    best = moveAt(i);
                    mostGain = gain;
                }
            }
            return best;
        }

        private int gainOf(int index) {
            long step = playListed(index);
            int to = placeOf(moveAt(index) % CELLS);
            int gain = worthOfKind(kindOf(valueTaken(step)));
            if (board.attackers(to, turn) > 0) {
                gain -= worthOfKind(kindOf(board.on(to)));
            }
            undo(step);
            return gain;
        }

        private int dearestHanging(int side) {
            int dearest = NOWHERE;
            int mostWorth = 0;
            for (int cell = 0; cell < CELLS; cell++) {
                int place = placeOf(cell);
                int value = board.on(place);
                int worth = worthOfKind(kindOf(value));
                if (sideOf(value) == side && worth > mostWorth
                        && board.attackers(place, 1 - side) > 0 && board.attackers(place, side) == 0) {
                    dearest = cell;
                    mostWorth = worth;
                }
            }
            return dearest;
        }
    }

    /** How far the cells are for a piece on an empty board. */
    private static final class Walk {
        private final Board empty = new Board();
        private final int[] distances = new int[PLACES];
        private final int[] reached = new int[CELLS];
        private int reachedCount = 0;

        private int fewestMoves(int kind, int from, int to) {
            Arrays.fill(distances, NOWHERE);
            reachedCount = 0;
            reach(from, 0);
            for (int k = 0; k < reachedCount && k < reached.length; k++) {
                goOn(kind, reached[k]);
            }
            return distanceOf(to);
        }

        private int distanceOf(int place) {
            return place >= 0 && place < distances.length ? distances[place] : NOWHERE;
        }

        private void reach(int place, int distance) {
            if (place >= 0 && place < distances.length && distances[place] == NOWHERE
                    && reachedCount >= 0 && reachedCount < reached.length) {
                distances[place] = distance;
                reached[reachedCount] = place;
                reachedCount++;
            }
        }

        private void goOn(int kind, int from) {
            int distance = distanceOf(from) + 1;
            int[] steps = stepsOf(kind);
            int end = Math.min(lastStepOf(kind), steps.length);
            int reach = reachOf(kind);
            for (int i = firstStepOf(kind); i < end; i++) {
                int to = from + steps[i];
                for (int k = 0; k < reach && empty.on(to) == NONE; k++) {
                    reach(to, distance);
                    to += steps[i];
                }
            }
        }
    }

    /** The bytes that are fed. */
    private static final class Tape {
        private final int[] bytes = new int[TAPE_SIZE];
        private int size = 0;

        private void append(int number) {
            appendByte(number >>> 24);
            appendByte(number >>> 16 & 255);
            appendByte(number >>> 8 & 255);
            appendByte(number & 255);
        }

        private void appendByte(int value) {
            if (size >= 0 && size < bytes.length) {
                bytes[size] = value;
                size++;
            }
        }

        private void shorten(int length) {
            size = length;
        }

        /** The byte there; -1, which is no byte, behind the end. */
        private int byteAt(int position) {
            return position >= 0 && position < size && position < bytes.length ? bytes[position] : -1;
        }

        private boolean isLetter(int position) {
            return byteAt(position) >= 'a' && byteAt(position) <= 'z';
        }

        private boolean isDigit(int position) {
            return byteAt(position) >= '0' && byteAt(position) <= '9';
        }

        private int behindBlanks(int position) {
            int next = position;
            for (int k = 0; k < TAPE_SIZE; k++) {
                if (byteAt(next) != ' ' && byteAt(next) != '\n') {
                    break;
                }
                next++;
            }
            return next;
        }

        private int behindToken(int position) {
            if (!isLetter(position)) {
                return position + 1;
            }
            int next = position + 1;
            for (int k = 0; k < TAPE_SIZE && (isLetter(next) || isDigit(next)); k++) {
                next++;
            }
            return next;
        }

        private boolean spells(int start, int end, String text) {
            if (text == null || end - start != text.length()) {
                return false;
            }
            for (int i = 0; i < text.length(); i++) {
                if (byteAt(start + i) != text.charAt(i)) {
                    return false;
                }
            }
            return true;
        }

        /** The cell that a word names, a column and a number without zeros ahead of it; -1 for none. */
        private int cellSpelled(int start, int end) {
            int digits = end - start - 1;
            if (digits < 1 || digits > 2 || byteAt(start + 1) == '0') {
                return NOWHERE;
            }
            int number = 0;
            for (int i = start + 1; i < end; i++) {
                if (!isDigit(i)) {
                    return NOWHERE;
                }
                number = number * 10 + byteAt(i) - '0';
            }
            return cellNamed(byteAt(start) - 'a', number);
        }
    }

    /** The kinds of tokens: keywords with the number of their side or piece, and the others. */
    private enum Kind {
        START("start", 0), PUT("put", 0), TURN("turn", 0), GO("go", 0), AS("as", 0),
        WHITE_SIDE("white", WHITE), BLACK_SIDE("black", BLACK),
        KING_PIECE("king", KING), QUEEN_PIECE("queen", QUEEN), ROOK_PIECE("rook", ROOK),
        BISHOP_PIECE("bishop", BISHOP), KNIGHT_PIECE("knight", KNIGHT), PAWN_PIECE("pawn", PAWN),
        SEMICOLON(";", 0), NAME("", 0), BAD("", 0);

        private static final Kind[] KINDS = values();

        private final String text;
        private final int number;

        Kind(String text, int number) {
            this.text = text;
            this.number = number;
        }

        private boolean isSide() {
            return this == WHITE_SIDE || this == BLACK_SIDE;
        }

        private boolean isPiece() {
            return number != 0 && !isSide();
        }
    }

    /** Reads a tape as tokens, and tells whether they are a game by its grammar. */
    private static final class Reader {
        // What is awaited next; at LINE the game can end.
        private static final int LINE = 0;
        private static final int PUT_SIDE = 1;
        private static final int PUT_PIECE = 2;
        private static final int PUT_NAME = 3;
        private static final int TURN_SIDE = 4;
        private static final int GO_FROM = 5;
        private static final int GO_TO = 6;
        private static final int GO_AS = 7;
        private static final int AS_PIECE = 8;
        private static final int LINE_END = 9;
        private static final int WRONG = 10;

        private final int[] starts = new int[MOST_TOKENS];
        private final int[] cells = new int[MOST_TOKENS];
        private final Kind[] kinds = new Kind[MOST_TOKENS];
        private int tokens = 0;

        /** Returns the position of the first token that is not in the grammar, -1 if there is none. */
        private int read(Tape tape) {
            tokens = 0;
            int state = LINE;
            int start = tape.behindBlanks(0);
            for (int k = 0; k < MOST_TOKENS && start < tape.size; k++) {
                int end = tape.behindToken(start);
                Kind kind = kindOfToken(tape, start, end);
                state = behind(state, kind);
                if (state == WRONG) {
                    return start;
                }
                keep(start, kind, tape.cellSpelled(start, end));
                start = tape.behindBlanks(end);
            }
            return start >= tape.size && state == LINE ? NOWHERE : start;
        }

        private static Kind kindOfToken(Tape tape, int start, int end) {
            for (int i = 0; i < Kind.KINDS.length; i++) {
                Kind kind = Kind.KINDS[i];
                if (kind != null && tape.spells(start, end, kind.text)) {
                    return kind;
                }
            }
            return tape.isLetter(start) && end - start <= LONGEST_WORD ? Kind.NAME : Kind.BAD;
        }

        /** What is awaited behind this token, if the state was awaited ahead of it. */
        private static int behind(int state, Kind kind) {
            switch (state) {
                case LINE: return behindFirst(kind);
                case PUT_SIDE: return kind.isSide() ? PUT_PIECE : WRONG;
                case PUT_PIECE: return kind.isPiece() ? PUT_NAME : WRONG;
                case PUT_NAME: return kind == Kind.NAME ? LINE_END : WRONG;
                case TURN_SIDE: return kind.isSide() ? LINE_END : WRONG;
                case GO_FROM: return kind == Kind.NAME ? GO_TO : WRONG;
                case GO_TO: return kind == Kind.NAME ? GO_AS : WRONG;
                case GO_AS: return kind == Kind.AS ? AS_PIECE : behindLine(kind);
                case AS_PIECE: return kind.isPiece() ? LINE_END : WRONG;
                default: return behindLine(kind);
            }
        }

        private static int behindFirst(Kind kind) {
            if (kind == Kind.START) {
                return LINE_END;
            }
            if (kind == Kind.PUT) {
                return PUT_SIDE;
            }
            if (kind == Kind.TURN) {
                return TURN_SIDE;
            }
            return kind == Kind.GO ? GO_FROM : WRONG;
        }

        private static int behindLine(Kind kind) {
            return kind == Kind.SEMICOLON ? LINE : WRONG;
        }

        private void keep(int start, Kind kind, int cell) {
            if (tokens >= 0 && tokens < starts.length && tokens < kinds.length && tokens < cells.length) {
                starts[tokens] = start;
                kinds[tokens] = kind;
                cells[tokens] = cell;
                tokens++;
            }
        }

        private int startOf(int token) {
            return token >= 0 && token < starts.length ? starts[token] : NOWHERE;
        }

        private int cellOfToken(int token) {
            return token >= 0 && token < cells.length ? cells[token] : NOWHERE;
        }

        private Kind kindAt(int token) {
            Kind kind = token >= 0 && token < tokens && token < kinds.length ? kinds[token] : Kind.BAD;
            return kind == null ? Kind.BAD : kind;
        }
    }

    /** Carries out the lines of a game. */
    private static final class Teacher {
        private int errorPosition = NOWHERE;

        /** Returns the first error of keywords and names, 0 for none. */
        private int carryOut(Reader reader, Game game) {
            errorPosition = NOWHERE;
            int error = 0;
            for (int i = 0; i < reader.tokens && error == 0; i++) {
                // These four stand at the beginning of a line alone; other tokens are passed over.
                Kind kind = reader.kindAt(i);
                if (kind == Kind.START) {
                    game.setUp();
                } else if (kind == Kind.PUT) {
                    error = put(reader, game, i);
                } else if (kind == Kind.TURN) {
                    game.giveTurn(reader.kindAt(i + 1).number);
                } else if (kind == Kind.GO) {
                    error = go(reader, game, i);
                }
            }
            return error;
        }

        private int put(Reader reader, Game game, int token) {
            int side = reader.kindAt(token + 1).number;
            int kind = reader.kindAt(token + 2).number;
            int cell = reader.cellOfToken(token + 3);
            if (game.board.pieces(side) >= MOST_PIECES) {
                return fail(reader, token + 1, 4);
            }
            if (kind == KING && game.hasKing(side)) {
                return fail(reader, token + 2, 3);
            }
            if (cell == NOWHERE) {
                return fail(reader, token + 3, 2);
            }
            if (game.valueOn(cell) != NONE) {
                return fail(reader, token + 3, 3);
            }
            game.put(side, kind, cell);
            return 0;
        }

        private int go(Reader reader, Game game, int token) {
            int from = reader.cellOfToken(token + 1);
            int to = reader.cellOfToken(token + 2);
            boolean told = reader.kindAt(token + 3) == Kind.AS;
            int as = told ? reader.kindAt(token + 4).number : QUEEN;
            if (game.moveCount() == 0) {
                return fail(reader, token, 4);
            }
            if (from == NOWHERE) {
                return fail(reader, token + 1, 2);
            }
            if (game.movesFrom(from) == 0) {
                return fail(reader, token + 1, 4);
            }
            if (to == NOWHERE) {
                return fail(reader, token + 2, 2);
            }
            if (!game.allows(from, to)) {
                return fail(reader, token + 2, 4);
            }
            if (told && (as == KING || as == PAWN || !game.comesToLast(from, to))) {
                return fail(reader, token + 4, 5);
            }
            game.make(from, to, as);
            return 0;
        }

        private int fail(Reader reader, int token, int error) {
            errorPosition = reader.startOf(token);
            return error;
        }
    }
}
