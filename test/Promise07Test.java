/** Promise 7: cell. */
public final class Promise07Test {
    public static void main(String[] args) {
        HexCabinet x = Check.told("start;");
        int[][] wrong = {{-1, 0}, {91, 0}, {0, -1}, {0, 6}, {91, 6}, {Integer.MIN_VALUE, 0}, {0, Integer.MAX_VALUE}};
        for (int[] w : wrong) {
            Check.noCell("cell(" + w[0] + ", " + w[1] + ")", () -> x.cell(w[0], w[1]));
        }
        // The pawn on j7 attacks k6.
        Check.due("cell(90, 5)", x.cell(90, 5), 1);
        Check.due("piece of g10", of(x, "g10", 0), 1);
        Check.due("side of g10", of(x, "g10", 1), 1);
        Check.due("side of f6", of(x, "f6", 1), -1);

        colours();
        movesOfPieces();
        attackers();
        Check.end();
    }

    private static int of(HexCabinet x, String name, int what) {
        return x.cell(Check.cell(name), what);
    }

    private static void colours() {
        HexCabinet x = new HexCabinet();
        Check.due("colour of f6", of(x, "f6", 2), 0);
        Check.due("colour of f7", of(x, "f7", 2), 2);
        Check.due("colour of f5", of(x, "f5", 2), 1);
        Check.due("colour of a1", of(x, "a1", 2), 1);
        Check.due("colour of k1", of(x, "k1", 2), 1);
        Check.due("colour of a6", of(x, "a6", 2), 2);
        Check.due("colour of f1", of(x, "f1", 2), 2);
    }

    private static void moves(String lines, String name, int due) {
        HexCabinet x = Check.told("put white king a2; put black king k5;" + lines);
        Check.due("moves of " + name + " with " + lines, of(x, name, 3), due);
    }

    private static void movesOfPieces() {
        moves("put white queen f6;", "f6", 42);
        moves("put white rook f6;", "f6", 30);
        moves("put white bishop f6;", "f6", 12);
        moves("put white knight f6;", "f6", 12);
        moves("put white pawn f6;", "f6", 1);
        moves("put white pawn f5;", "f5", 2);
        moves("put white pawn f5; put black knight f7;", "f5", 1);
        moves("put white pawn f5; put black knight f6;", "f5", 0);
        moves("put white pawn f5; put black knight e5; put black knight g5;", "f5", 4);
        moves("put white pawn f5; put white rook e5; put black knight g5;", "f5", 3);
        moves("put white pawn f5; put black knight e6; put black knight g4;", "f5", 2);
        moves("put white rook f6; put white rook f8; put black pawn g6;", "f6", 22);
        moves("put white knight f6; put white rook f7; put black rook g8;", "f6", 12);
        moves("put black queen f6;", "f6", 0);
        moves("put black queen f6; turn black;", "f6", 42);
        moves("put black pawn f7; turn black;", "f7", 2);
        moves("put black pawn f6; turn black;", "f6", 1);
        moves("put black pawn f7; put white rook e6; put white rook g6; turn black;", "f7", 4);
        Check.due("moves of a king", of(Check.told("put white king f6; put black king k5;"), "f6", 3), 12);

        // All first cells of both, and none else in the columns.
        String[] white = {"b1", "c2", "d3", "e4", "f5", "g4", "h3", "i2", "j1"};
        String[] black = {"b7", "c7", "d7", "e7", "f7", "g7", "h7", "i7", "j7"};
        for (int i = 0; i < 9; i++) {
            moves("put white pawn " + white[i] + ";", white[i], 2);
            moves("put black pawn " + black[i] + "; turn black;", black[i], 2);
            moves("put black pawn " + white[i] + "; turn black;", white[i], i == 0 || i == 8 ? 0 : 1);
        }
        moves("put white pawn a1;", "a1", 0);
        moves("put white pawn k1;", "k1", 1);
        moves("put white pawn c1;", "c1", 1);
        moves("put white pawn f11;", "f11", 0);
        // A pawn on a last cell can take along the border.
        moves("put white pawn d9; put black rook e10;", "d9", 1);

        // A rook that is pinned on its column goes in it alone.
        HexCabinet x = Check.told("put white king f1; put white rook f3; put black rook f8; put black king k5;");
        Check.due("moves of f3", of(x, "f3", 3), 6);
    }

    private static void attackers() {
        HexCabinet x = Check.told("put white rook f1; put white rook f3; put black rook f9; put white pawn f8;"
                + "put black bishop d5; put white knight g4; put black king e10; put white queen a1;");
        // Both rooks, and the knight on g4.
        Check.due("white on f2", of(x, "f2", 4), 3);
        // The rook on f1 stands behind the one on f3, which it defends.
        Check.due("white on f4", of(x, "f4", 4), 1);
        Check.due("white on f3", of(x, "f3", 4), 1);
        // f8 is defended by f3 and attacked by f9; the pawn on it attacks e9 and g8.
        Check.due("white on f8", of(x, "f8", 4), 1);
        Check.due("black on f8", of(x, "f8", 5), 1);
        Check.due("white on g8", of(x, "g8", 4), 1);
        Check.due("white on e9", of(x, "e9", 4), 1);
        Check.due("white on f9", of(x, "f9", 4), 0);
        // The king on e10 goes to f9 by (1, -2), the bishop on d5 by (1, 1) twice.
        Check.due("black on f9", of(x, "f9", 5), 2);
        Check.due("black on f7", of(x, "f7", 5), 0);
        // No piece attacks its own cell.
        Check.due("white on a1", of(Check.told("put white queen a1;"), "a1", 4), 0);

        // A pawn that can be taken in passing is not attacked by that.
        HexCabinet p = Check.told("put white king a2; put black king k5; put white pawn e5; put black pawn f7;"
                + "turn black; go f7 f5;");
        Check.dueTrue("legal", p.legal(Check.cell("e5"), Check.cell("f6")));
        Check.due("white on f5", of(p, "f5", 4), 0);
        Check.due("white on f6", of(p, "f6", 4), 1);
        Check.due("black on f6", of(p, "f6", 5), 0);
    }
}
