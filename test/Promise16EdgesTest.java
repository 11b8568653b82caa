/** Promise 16, at its boundaries: mate. */
public final class Promise16EdgesTest {
    private static final String CORNER = "put white king c3; put black king a1; put white queen b7;";

    public static void main(String[] args) {
        none();
        first();
        pawnsBecomeQueens();
        quietMovesLeftAside();
        overByQuietMoves();
        nothingIsLeft();
        Check.end();
    }

    private static void mate(String text, int due) {
        HexCabinet x = Check.told(text);
        Check.due("mate() of " + text, x.mate(), due);
        Check.due("mate() of the second telling", Oracle.told(text).mate(), due);
    }

    /** "-1 if there is none." */
    private static void none() {
        mate("", -1);
        mate("start;", -1);
        mate("put white king c3; put white queen b7;", -1);
        // It cannot be played: black is attacked, and white on turn.
        mate("put white king c3; put white queen a6; put black king a1;", -1);
        // There is no legal move: mate and stalemate are there already.
        mate("put white king c3; put white queen b2; put black king a1; turn black;", -1);
        mate("put white king c3; put black king a1; turn black;", -1);
        // Check alone is no mate, and stalemate is none.
        mate("put white king f6; put black king a1; put white rook k1;", -1);
        mate("put white king d4; put black king a1;", -1);
        // It is the side on turn that mates.
        mate(CORNER + "turn black;", -1);
    }

    /** "Returns the first legal move by which the other side is mated" */
    private static void first() {
        HexCabinet x = Check.told(CORNER);
        int mates = 0;
        int first = -1;
        int moves = x.count(3);
        for (int i = 0; i < moves; i++) {
            int move = x.nth(i);
            x.move(move / 91, move % 91, 2);
            if (x.count(2) == 2) {
                mates++;
                first = first < 0 ? move : first;
            }
            x.back();
        }
        Check.dueTrue("several of them", mates > 1);
        mate(CORNER, first);
        mate(CORNER, Check.move("b7", "a5"));
        // The same by black.
        mate("put black king c3; put white king a1; put black queen b7; turn black;", Check.move("b7", "a5"));
    }

    /** "pawns become queens": not what else would mate. */
    private static void pawnsBecomeQueens() {
        mate("put white king c6; put white pawn e9; put black king a6;", Check.move("e9", "e10"));
        mate("put black king c3; put black pawn e2; put white king a1; turn black;", Check.move("e2", "e1"));
        // Here a knight would mate, and a queen does not; or even takes the last moves.
        String[] texts = {"put white king c8; put black king e10; put black bishop f11; put white queen g8;"
                + "put white pawn h8;", "put black king a4; put white pawn b6; put white king c4; put white rook d8;",
            "put white queen c8; put black king f10; put white king h8; put white pawn i7;"};
        String[] from = {"h8", "b6", "i7"};
        String[] to = {"h9", "b7", "i8"};
        int[] queen = {0, 3, 3};
        for (int i = 0; i < texts.length; i++) {
            HexCabinet x = Check.told(texts[i]);
            x.move(Check.cell(from[i]), Check.cell(to[i]), 5);
            Check.due("count(2) with a knight", x.count(2), 2);
            x.back();
            Check.go(x, from[i], to[i]);
            Check.due("count(2) with a queen", x.count(2), queen[i]);
            mate(texts[i], -1);
        }
    }

    private static HexCabinet shuffled(int moves) {
        HexCabinet x = Check.told("put white king c3; put white queen j3; put black king a1; put black knight k4;"
                + "turn black;");
        String[] way = {"k4", "j3", "j7", "j4"};
        for (int i = 0; i < moves; i++) {
            Check.go(x, way[i % 4], way[(i + 2) % 4]);
        }
        return x;
    }

    /** "quiet moves left aside behind it": the 60th quiet move mates as any other. */
    private static void quietMovesLeftAside() {
        HexCabinet early = shuffled(3);
        HexCabinet late = shuffled(59);
        Check.due("count(6)", late.count(6), 59);
        Check.due("mate() with 3 quiet moves", early.mate(), Check.move("j4", "c1"));
        Check.due("mate() with 59", late.mate(), Check.move("j4", "c1"));
        Check.go(late, "j4", "c1");
        Check.due("count(6)", late.count(6), 60);
        Check.due("count(2)", late.count(2), 2);
        Check.due("mate() behind it", late.mate(), -1);
    }

    /** Over by quiet moves there is no legal move, and so none that mates. */
    private static void overByQuietMoves() {
        String text = "put white king a1; put white rook a3; put white queen g4; put black king k6;"
                + Check.quietMoves(56);
        HexCabinet x = Check.told(text);
        Check.due("count(6)", x.count(6), 56);
        int mate = x.mate();
        Check.dueTrue("mate() with 56 quiet moves", mate >= 0);
        String[] way = {"a1", "k6", "a2", "k5"};
        for (int i = 0; i < 4; i++) {
            Check.go(x, way[i], way[(i + 2) % 4]);
        }
        Check.due("count(6)", x.count(6), 60);
        Check.due("mate() with 60 quiet moves", x.mate(), -1);
        HexCabinet again = Check.told(text + "turn white;");
        Check.due("mate() with quiet moves from 0 on", again.mate(), mate);
    }

    /** What is asked changes nothing: moves, in passing, the tape. */
    private static void nothingIsLeft() {
        HexCabinet x = Check.busy();
        x.mate();
        Check.alike("mate()", x, Check.busy());
        HexCabinet y = Check.told(CORNER);
        y.mate();
        Check.alike("mate()", y, Check.told(CORNER));
    }
}
