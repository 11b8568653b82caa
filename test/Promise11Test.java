/** Promise 11: legal. */
public final class Promise11Test {
    public static void main(String[] args) {
        HexCabinet x = Check.told("start;");
        dueMove(x, "b1", "b3", true);
        dueMove(x, "b1", "b4", false);
        dueMove(x, "b1", "b1", false);
        dueMove(x, "b7", "b6", false);
        dueMove(x, "f6", "f7", false);
        dueMove(x, "f1", "f2", false);
        dueMove(x, "d1", "f4", true);
        dueMove(x, "d1", "e4", false);
        int[] wrong = {-1, 91, Integer.MIN_VALUE, Integer.MAX_VALUE};
        for (int w : wrong) {
            Check.noCell("legal(" + w + ", 0)", () -> x.legal(w, 0));
            Check.noCell("legal(0, " + w + ")", () -> x.legal(0, w));
        }
        Check.dueFalse("on an empty board", new HexCabinet().legal(0, 1));

        ownKing();
        inPassing();
        inPassingAndOwnKing();
        Check.end();
    }

    private static void dueMove(HexCabinet x, String from, String to, boolean due) {
        Check.due("legal " + from + " " + to, x.legal(Check.cell(from), Check.cell(to)) ? 1 : 0, due ? 1 : 0);
    }

    private static void ownKing() {
        // The rook on f3 is pinned by the one on f8.
        HexCabinet x = Check.told("put white king f1; put white rook f3; put black rook f8; put black king k5;"
                + "put white pawn b1;");
        dueMove(x, "f3", "f8", true);
        dueMove(x, "f3", "f2", true);
        dueMove(x, "f3", "e3", false);
        dueMove(x, "f3", "g3", false);
        dueMove(x, "b1", "b2", true);

        // In check: take, step between, or go away (not along the line of the rook).
        HexCabinet c = Check.told("put white king f3; put black rook f8; put black king k5; put white rook e8;"
                + "put white bishop d5; put white pawn b1;");
        dueMove(c, "e8", "f8", true);
        dueMove(c, "e8", "f7", false);
        dueMove(c, "e8", "e7", false);
        dueMove(c, "d5", "f6", true);
        dueMove(c, "d5", "e7", false);
        dueMove(c, "b1", "b2", false);
        dueMove(c, "f3", "f2", false);
        dueMove(c, "f3", "e3", true);
        dueMove(c, "f3", "f4", false);

        // A king does not go beside the other one, nor take what is defended.
        HexCabinet k = Check.told("put white king f6; put black king f9; put black pawn f7; put black pawn g6;"
                + "put black rook g10;");
        dueMove(k, "f6", "f7", true);
        dueMove(k, "f6", "g6", false);
        dueMove(k, "f6", "g7", false);
    }

    private static void inPassing() {
        String both = "put white king a2; put black king k5; put white pawn f6; put white pawn h5; put black pawn g7;";
        HexCabinet x = Check.told(both + "turn black; go g7 g5;");
        dueMove(x, "f6", "g6", true);
        // From h5, (2, -1), a pawn takes by (-1, 1) on g6, (1, 0), as well.
        dueMove(x, "h5", "g6", true);
        dueMove(x, "h5", "g5", false);
        // With the next moves it is too late.
        Check.go(x, "a2", "a1");
        Check.go(x, "k5", "k6");
        dueMove(x, "f6", "g6", false);
        // By two steps of one it is not in passing.
        HexCabinet y = Check.told(both + "turn black; go g7 g6; go a2 a1; go g6 g5;");
        dueMove(y, "f6", "g6", false);
        // Only pawns take so: for another piece the cell is empty.
        HexCabinet z = Check.told("put white king a2; put black king k5; put white rook f6; put black pawn g7;"
                + "turn black; go g7 g5;");
        Check.due("taken", Check.go(z, "f6", "g6"), 0);
        Check.due("g5", z.cell(Check.cell("g5"), 0), 6);
    }

    private static void inPassingAndOwnKing() {
        // e6, f6, g5 and h4 are one straight line: without both pawns the rook attacks the king.
        String line = "put white king e6; put white pawn f6; put black pawn g7; put black king k5;";
        HexCabinet free = Check.told(line + "turn black; go g7 g5;");
        dueMove(free, "f6", "g6", true);
        HexCabinet bound = Check.told(line + "put black rook h4; turn black; go g7 g5;");
        dueMove(bound, "f6", "g6", false);
        // The pawn that went by two steps attacks the king on f5, and can be taken in passing.
        HexCabinet check = Check.told("put white king f5; put white pawn f6; put black pawn g7; put black king k5;"
                + "put white pawn b1; turn black; go g7 g5;");
        Check.due("count(2)", check.count(2), 1);
        dueMove(check, "f6", "g6", true);
        dueMove(check, "f6", "f7", false);
        dueMove(check, "b1", "b2", false);
    }
}
