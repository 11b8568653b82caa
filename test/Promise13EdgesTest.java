/** Promise 13, at its boundaries: move. */
public final class Promise13EdgesTest {
    private static final String KINGS = "put white king a1; put black king k6; ";

    public static void main(String[] args) {
        noSuchCell();
        noSuchPiece();
        noLegalMove();
        firstNamed();
        takenPiece();
        lastCells();
        lastCellsByTaking();
        alongTheBorder();
        asIsLeftAside();
        behindTheMove();
        over();
        Check.end();
    }

    /** "Throws IndexOutOfBoundsException if there is no such cell" */
    private static void noSuchCell() {
        int[] wrong = {-1, 91, 92, -91, 256, Integer.MIN_VALUE, Integer.MAX_VALUE};
        for (int cell : wrong) {
            Check.refusedByAll("move(" + cell + ", 7, 2)", IndexOutOfBoundsException.class, x -> x.move(cell, 7, 2));
            Check.refusedByAll("move(6, " + cell + ", 2)", IndexOutOfBoundsException.class, x -> x.move(6, cell, 2));
        }
        // The ends of the row of cells are cells.
        HexCabinet x = Check.told(KINGS);
        Check.due("move(0, 1, 2)", x.move(0, 1, 2), 0);
        Check.due("move(90, 89, 2)", x.move(90, 89, 2), 0);
        Check.due("move(1, 0, 2)", x.move(1, 0, 2), 0);
        Check.due("move(89, 90, 2)", x.move(89, 90, 2), 0);
    }

    /** "Throws IllegalArgumentException if as is not 2 to 5": also if no pawn comes to a last cell. */
    private static void noSuchPiece() {
        int[] wrong = {1, 6, 0, 7, -1, -2, 256, 258, Integer.MIN_VALUE, Integer.MAX_VALUE};
        for (int as : wrong) {
            Check.refusedByAll("move(6, 7, " + as + ")", IllegalArgumentException.class, x -> x.move(6, 7, as));
            Check.refused("move(0, 1, " + as + ") of a king", IllegalArgumentException.class, () -> Check.told(KINGS),
                    x -> x.move(0, 1, as));
            Check.refused("becoming " + as, IllegalArgumentException.class, () -> Check.told(KINGS + "put white pawn e9;"),
                    x -> x.move(Check.cell("e9"), Check.cell("e10"), as));
        }
        for (int as = 2; as <= 5; as++) {
            Check.due("move(0, 1, " + as + ")", Check.told(KINGS).move(0, 1, as), 0);
        }
    }

    private static void noMove(String text, String from, String to) {
        Check.refused("move " + from + " " + to + " of " + text, IllegalStateException.class, () -> Check.told(text),
                x -> Check.go(x, from, to));
    }

    /** "Throws IllegalStateException if it is no legal move" */
    private static void noLegalMove() {
        Check.refusedByAll("move(0, 1, 2)", IllegalStateException.class, x -> x.move(0, 1, 2));
        Check.refusedByAll("move(45, 45, 5)", IllegalStateException.class, x -> x.move(45, 45, 5));
        noMove("start;", "b1", "b4");
        noMove("start;", "b7", "b6");
        noMove("start;", "f6", "f7");
        noMove("start; go f5 f6;", "g4", "g5");
        noMove("put white king f1; put white rook f3; put black rook f8; put black king k5;", "f3", "g3");
        // Not the side on turn, and it cannot be played.
        noMove(KINGS, "k6", "k5");
        noMove("put white king a1;", "a1", "a2");
        noMove("put white king a1; put black king a2;", "a1", "a2");
        // Mate and stalemate.
        noMove("put white king c3; put white queen b2; put black king a1; turn black;", "a1", "a2");
        noMove("put white king c3; put black king a1; turn black;", "a1", "a2");
        // In passing, one move too late.
        noMove("put white king a1; put black king k5; put white pawn f5; put black pawn g6; go f5 f7; go k5 k4; go a1 a2;",
                "g6", "f6");
    }

    /** "If several exceptions apply, the one that is named first is thrown." */
    private static void firstNamed() {
        // cell and as, cell and no move, as and no move, all three.
        Check.refusedByAll("move(-1, 7, 1)", IndexOutOfBoundsException.class, x -> x.move(-1, 7, 1));
        Check.refusedByAll("move(6, 91, 6)", IndexOutOfBoundsException.class, x -> x.move(6, 91, 6));
        Check.refusedByAll("move(91, 91, 2)", IndexOutOfBoundsException.class, x -> x.move(91, 91, 2));
        Check.refusedByAll("move(0, 1, 6)", IllegalArgumentException.class, x -> x.move(0, 1, 6));
        Check.refusedByAll("move(0, 1, 1)", IllegalArgumentException.class, x -> x.move(0, 1, 1));
        Check.refusedByAll("move(0, 1, 5)", IllegalStateException.class, x -> x.move(0, 1, 5));
        Check.refusedByAll("move(91, -1, 0)", IndexOutOfBoundsException.class, x -> x.move(91, -1, 0));
    }

    /** "Returns the piece that is taken, 0 for none." */
    private static void takenPiece() {
        for (int piece = 2; piece <= 6; piece++) {
            HexCabinet x = Check.told(KINGS + "put white rook f1; put black " + Oracle.PIECES[piece] + " f4;");
            Check.due("nothing is taken", Check.go(x, "f1", "f3"), 0);
            x.back();
            Check.due("taken", Check.go(x, "f1", "f4"), piece);
            Check.due("the side there", x.cell(Check.cell("f4"), 1), 0);
        }
        // In passing the pawn that went by two steps, from the cell on which it is.
        HexCabinet b = Check.told("put white king a1; put black king k5; put white pawn f5; put black pawn g6; go f5 f7;");
        Check.due("taken", Check.go(b, "g6", "f6"), 6);
        Check.due("f7", b.cell(Check.cell("f7"), 0), 0);
        Check.due("f6", b.cell(Check.cell("f6"), 1), 1);
        Check.due("g6", b.cell(Check.cell("g6"), 0), 0);
        HexCabinet w = Check.told("put white king a1; put black king k5; put white pawn g5; put black pawn f7; turn black;"
                + "go f7 f5;");
        Check.due("taken", Check.go(w, "g5", "f6"), 6);
        Check.due("f5", w.cell(Check.cell("f5"), 0), 0);
        Check.due("f6", w.cell(Check.cell("f6"), 1), 0);
    }

    /** "Last cells of a pawn: those from which its step of one leads off the board." On all cells, of both sides. */
    private static void lastCells() {
        for (int side = 0; side < 2; side++) {
            String own = side == 0 ? "white" : "black";
            int up = side == 0 ? 1 : -1;
            for (int from = 0; from < 91; from++) {
                if (Oracle.lastCell(side, from)) {
                    continue;
                }
                String kings = from < 45 ? "put white king k1; put black king k6;" : "put white king a1; put black king a6;";
                int to = from + up;
                boolean last = Oracle.lastCell(side, to);
                for (int as = 2; as <= 5; as++) {
                    HexCabinet x = Check.told(kings + "put " + own + " pawn " + Oracle.name(from) + "; turn " + own + ";");
                    Check.due("move to " + Oracle.name(to), x.move(from, to, as), 0);
                    Check.due(own + " pawn come to " + Oracle.name(to) + " as " + as, x.cell(to, 0), last ? as : 6);
                    Check.due("its side", x.cell(to, 1), side);
                    Check.due("count(1)", x.count(1), 1 - side);
                    Check.due("count(6)", x.count(6), 0);
                    x.back();
                    Check.due("the pawn again", x.cell(from, 0), 6);
                }
            }
        }
    }

    /** "A pawn that comes to one of them becomes another piece at once": by taking, too. */
    private static void lastCellsByTaking() {
        HexCabinet x = Check.told(KINGS + "put white pawn e9; put black rook d9; put black queen f10;");
        Check.due("taken", x.move(Check.cell("e9"), Check.cell("d9"), 3), 3);
        Check.due("d9", x.cell(Check.cell("d9"), 0), 3);
        x.back();
        // f10 is no last cell: f11 stands above it.
        Check.due("taken", x.move(Check.cell("e9"), Check.cell("f10"), 3), 2);
        Check.due("f10", x.cell(Check.cell("f10"), 0), 6);
        HexCabinet b = Check.told(KINGS + "put black pawn e2; put white rook d1; put white queen f2; turn black;");
        Check.due("taken", b.move(Check.cell("e2"), Check.cell("d1"), 4), 3);
        Check.due("d1", b.cell(Check.cell("d1"), 0), 4);
        b.back();
        Check.due("taken", b.move(Check.cell("e2"), Check.cell("f2"), 5), 2);
        Check.due("f2", b.cell(Check.cell("f2"), 0), 6);
        Check.due("f2", b.cell(Check.cell("f2"), 1), 1);
    }

    /** A pawn that was put on a last cell did not come there: it stays one, until it comes to another one. */
    private static void alongTheBorder() {
        HexCabinet x = Check.told(KINGS + "put white pawn d9; put black rook e10;");
        Check.due("d9", x.cell(Check.cell("d9"), 0), 6);
        Check.due("moves from d9", x.cell(Check.cell("d9"), 3), 1);
        Check.due("taken", x.move(Check.cell("d9"), Check.cell("e10"), 5), 3);
        Check.due("e10", x.cell(Check.cell("e10"), 0), 5);
    }

    /** "what a pawn becomes that comes to a last cell": what goes otherwise stays what it is. */
    private static void asIsLeftAside() {
        for (int as = 2; as <= 5; as++) {
            HexCabinet x = Check.told(KINGS + "put white rook e9; put white pawn c4; put white pawn b1;");
            x.move(Check.cell("e9"), Check.cell("e10"), as);
            Check.due("e10", x.cell(Check.cell("e10"), 0), 3);
            x.back();
            x.move(Check.cell("c4"), Check.cell("c5"), as);
            Check.due("c5", x.cell(Check.cell("c5"), 0), 6);
            x.back();
            x.move(Check.cell("b1"), Check.cell("b3"), as);
            Check.due("b3", x.cell(Check.cell("b3"), 0), 6);
            // A pawn that stands on a last cell of the other side is no pawn of its own last cells.
            HexCabinet y = Check.told(KINGS + "put black pawn f11; turn black;");
            y.move(Check.cell("f11"), Check.cell("f10"), as);
            Check.due("f10", y.cell(Check.cell("f10"), 0), 6);
        }
    }

    /** "Makes a move." The other side is on turn, one more can be taken back, and the tape stays. */
    private static void behindTheMove() {
        HexCabinet x = Check.busy();
        Check.due("count(0)", x.count(0), 4);
        Check.due("count(1)", x.count(1), 0);
        Check.due("count(6)", x.count(6), 0);
        Check.due("move", Check.go(x, "g2", "g1"), 0);
        Check.due("count(0)", x.count(0), 5);
        Check.due("count(1)", x.count(1), 1);
        Check.due("count(6)", x.count(6), 1);
        Check.due("count(9)", x.count(9), -1);
        Check.due("count(10)", x.count(10), 30);
        Check.due("g2", x.cell(Check.cell("g2"), 0), 0);
        Check.due("g1", x.cell(Check.cell("g1"), 0), 1);
        Check.due("errorAt()", x.errorAt(), 7);
    }

    /** "with 60 it is over": the 60th quiet move is made, a 61st one is none. */
    private static void over() {
        String[] way = {"a1", "k6", "a2", "k5"};
        HexCabinet x = Check.told(KINGS + "put white pawn f5;");
        for (int i = 0; i < 60; i++) {
            Check.due("taken", Check.go(x, way[i % 4], way[(i + 2) % 4]), 0);
        }
        long digest = x.digest();
        Check.noState("a 61st quiet move", () -> Check.go(x, "a1", "a2"));
        Check.noState("a pawn's move behind 60", () -> Check.go(x, "f5", "f6"));
        Check.noArgument("with a piece that cannot be", () -> x.move(0, 1, 6));
        Check.noCell("with a cell that is none", () -> x.move(0, 91, 6));
        Check.due("count(0)", x.count(0), 60);
        Check.due("digest()", x.digest(), digest);
    }
}
