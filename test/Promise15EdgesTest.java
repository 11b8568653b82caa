/** Promise 15, at its boundaries: lines. */
public final class Promise15EdgesTest {
    private static final String KINGS = "put white king a1; put black king k6; ";

    public static void main(String[] args) {
        depth();
        noMoves();
        behindAllOfThese();
        pawnsBecomeQueens();
        behindOneByWhichItIsOver();
        quietMoves();
        Check.end();
    }

    /** "Throws IllegalArgumentException if depth is not 1 or 2" */
    private static void depth() {
        HexCabinet x = Check.told("start;");
        Check.due("lines(1)", x.lines(1), 51);
        Check.due("lines(2)", x.lines(2), 2586);
        int[] wrong = {0, 3, -1, -2, 4, 257, 258, Integer.MIN_VALUE, Integer.MIN_VALUE + 1, Integer.MAX_VALUE};
        for (int depth : wrong) {
            Check.refusedByAll("lines(" + depth + ")", IllegalArgumentException.class, y -> y.lines(depth));
        }
    }

    private static void none(String text) {
        Check.due("lines(1) of " + text, Check.told(text).lines(1), 0);
        Check.due("lines(2) of " + text, Check.told(text).lines(2), 0);
    }

    /** "how many legal moves there are": none in mate and stalemate, and if it cannot be played. */
    private static void noMoves() {
        none("");
        none("put white king a1;");
        none("put white king a1; put black king a2;");
        none("put white king c3; put white queen b2; put black king a1; turn black;");
        none("put white king c3; put black king a1; turn black;");
    }

    /** Adds by making each move, and taking it back: as it is so, nothing of it is left. */
    private static void added(String text) {
        HexCabinet x = Check.told(text);
        HexCabinet twin = Check.told(text);
        int sum = 0;
        int moves = x.lines(1);
        Check.due("count(3)", x.count(3), moves);
        for (int i = 0; i < moves; i++) {
            int move = x.nth(i);
            x.move(move / 91, move % 91, 2);
            sum += x.count(3);
            x.back();
        }
        HexCabinet y = Check.told(text);
        Check.due("lines(2) of " + text, y.lines(2), sum);
        Check.due("lines(2) again", y.lines(2), sum);
        Check.alike("lines(2)", y, twin);
        Check.due("lines(2) of the second telling", Oracle.told(text).lines(2), sum);
    }

    /** "for 2 how many there would be behind all of these, added" */
    private static void behindAllOfThese() {
        Check.due("two kings", Check.told(KINGS).lines(2), 25);
        added(KINGS);
        added("start; turn black;");
        added("start; go f5 f6; go g7 g5;");
        added(KINGS + "put white queen f1; put black rook f9; put black pawn b7; turn black;");
        // In passing, and the king that is covered by it.
        added("put white king e6; put white pawn f6; put black pawn g7; put black king k5; put black rook h4; turn black;");
    }

    /** "pawns become queens": and no other pieces, for which the sum would be another. */
    private static void pawnsBecomeQueens() {
        String text = "put white king a1; put black king g10; put white pawn e9; put black pawn c7; put black pawn b7;";
        added(text);
        int[] behind = new int[6];
        for (int as = 2; as <= 5; as++) {
            HexCabinet x = Check.told(text);
            x.move(Check.cell("e9"), Check.cell("e10"), as);
            behind[as] = x.count(3);
        }
        Check.dueTrue("a queen leaves other moves than a rook", behind[2] != behind[3]);
        Check.dueTrue("a queen leaves other moves than a bishop", behind[2] != behind[4]);
        Check.dueTrue("a queen leaves other moves than a knight", behind[2] != behind[5]);
    }

    /** "0 behind one by which it is over": mate and stalemate. */
    private static void behindOneByWhichItIsOver() {
        // The queen mates from many cells.
        added("put white king c3; put white queen b7; put black king a1;");
        // By c3 the king takes the last move.
        String stale = "put white king d4; put black king a1;";
        added(stale);
        HexCabinet x = Check.told(stale);
        Check.go(x, "d4", "c3");
        Check.due("lines(1) behind it", x.lines(1), 0);
        Check.due("lines(2) behind it", x.lines(2), 0);
    }

    /** The same: by the 60th quiet move it is over, by a pawn's move it is not. */
    private static void quietMoves() {
        HexCabinet before = Check.told(KINGS + Check.quietMoves(58));
        Check.due("count(6)", before.count(6), 58);
        Check.dueTrue("lines(2) with 58 quiet moves", before.lines(2) > before.lines(1));
        HexCabinet kings = Check.told(KINGS + Check.quietMoves(59));
        Check.due("count(6)", kings.count(6), 59);
        Check.dueTrue("lines(1) with 59 quiet moves", kings.lines(1) > 0);
        Check.due("lines(2) with 59 quiet moves", kings.lines(2), 0);
        // The pawn on b5 can go one step: behind it white has the moves of its king on a1 and no others.
        String pawn = KINGS + "put black pawn b5;" + Check.quietMoves(59);
        HexCabinet x = Check.told(pawn);
        Check.due("count(6)", x.count(6), 59);
        HexCabinet y = Check.told(pawn);
        Check.go(y, "b5", "b4");
        Check.due("lines(2) with a pawn", x.lines(2), y.lines(1));
        Check.dueTrue("lines(1) behind it", y.lines(1) > 0);
        Check.go(kings, "k5", "k6");
        Check.due("lines(1) with 60 quiet moves", kings.lines(1), 0);
        Check.due("lines(2) with 60 quiet moves", kings.lines(2), 0);
    }
}
