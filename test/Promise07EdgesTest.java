import java.util.Set;

/** Promise 7, at its boundaries: cell, and the sentences of "The board" on steps, places and attacks. */
public final class Promise07EdgesTest {
    public static void main(String[] args) {
        noSuchCell();
        emptyCell();
        fullCell();
        colours();
        stepsFromEveryCell();
        movesFromEveryCell();
        firstCells();
        bothCellsEmpty();
        defended();
        ownKingDoesNotMatter();
        behindAPiece();
        notPlayable();
        Check.end();
    }

    private static int of(HexCabinet x, String name, int what) {
        return x.cell(Check.cell(name), what);
    }

    /** "Throws IndexOutOfBoundsException if there is no such cell, or what is not 0 to 5" */
    private static void noSuchCell() {
        HexCabinet x = Check.told("start;");
        for (int what = 0; what <= 5; what++) {
            Check.dueTrue("cell(0, " + what + ")", x.cell(0, what) >= -1);
            Check.dueTrue("cell(90, " + what + ")", x.cell(90, what) >= -1);
        }
        int[] cells = {-1, 91, 92, -91, 256, Integer.MIN_VALUE, Integer.MAX_VALUE};
        for (int cell : cells) {
            for (int what = 0; what <= 5; what++) {
                int w = what;
                Check.noCell("cell(" + cell + ", " + w + ")", () -> x.cell(cell, w));
            }
            Check.refusedByAll("cell(" + cell + ", 0)", IndexOutOfBoundsException.class, y -> y.cell(cell, 0));
        }
        int[] whats = {-1, 6, 7, Integer.MIN_VALUE, Integer.MAX_VALUE};
        for (int what : whats) {
            Check.noCell("cell(0, " + what + ")", () -> x.cell(0, what));
            Check.noCell("cell(90, " + what + ")", () -> x.cell(90, what));
            Check.noCell("cell(91, " + what + ")", () -> x.cell(91, what));
            Check.refusedByAll("cell(45, " + what + ")", IndexOutOfBoundsException.class, y -> y.cell(45, what));
        }
    }

    /** "0 its piece, 1 the side of this, -1 without one" */
    private static void emptyCell() {
        HexCabinet x = Check.told("put white pawn a1; put black pawn k6;");
        int[] white = {6, 0, 1, 0, 0, 0};
        int[] black = {6, 1, 1, 0, 0, 0};
        int[] none = {0, -1, 0, 0, 0, 0};
        for (int what = 0; what <= 5; what++) {
            Check.due("a1, " + what, of(x, "a1", what), what == 2 ? x.cell(0, 2) : white[what]);
            Check.due("k6, " + what, of(x, "k6", what), what == 2 ? x.cell(90, 2) : black[what]);
            Check.due("f6, " + what, of(x, "f6", what), none[what]);
        }
        // A cell that a piece left, or on which one was taken in passing, is as empty.
        HexCabinet y = Check.told("put white king a1; put black king k5; put white pawn f5; put black pawn g6;"
                + "go f5 f7; go g6 f6;");
        String[] empty = {"f5", "f7", "g6"};
        for (String name : empty) {
            Check.due("piece on " + name, of(y, name, 0), 0);
            Check.due("side on " + name, of(y, name, 1), -1);
        }
    }

    /** "Pieces by numbers: 1 king, 2 queen, 3 rook, 4 bishop, 5 knight, 6 pawn; ... Sides: 0 white, 1 black." */
    private static void fullCell() {
        for (int piece = 1; piece <= 6; piece++) {
            HexCabinet x = Check.told("put white " + Oracle.PIECES[piece] + " a1; put black " + Oracle.PIECES[piece]
                    + " k6;");
            Check.due("piece on a1", x.cell(0, 0), piece);
            Check.due("side on a1", x.cell(0, 1), 0);
            Check.due("piece on k6", x.cell(90, 0), piece);
            Check.due("side on k6", x.cell(90, 1), 1);
        }
    }

    /** "Colour of a cell: the remainder of x - y + 30 by 3." */
    private static void colours() {
        HexCabinet x = Check.told("start;");
        int[] number = new int[3];
        for (int cell = 0; cell < 91; cell++) {
            int colour = x.cell(cell, 2);
            Check.due("colour of " + cell, colour, (Oracle.X[cell] - Oracle.Y[cell] + 30) % 3);
            number[colour]++;
        }
        Check.due("cells of colour 0", number[0], 31);
        Check.due("cells of colour 1", number[1], 30);
        Check.due("cells of colour 2", number[2], 30);
        // The bishops of a side stand on each of the three colours.
        Check.due("colours of bishops", of(x, "f1", 2) + of(x, "f2", 2) + of(x, "f3", 2), 3);
        Check.dueTrue("f1 and f2", of(x, "f1", 2) != of(x, "f2", 2));
    }

    /** "Straight steps ... Slanting ones ... A knight jumps by ...": from every cell, and none off the board. */
    private static void stepsFromEveryCell() {
        for (int side = 0; side < 2; side++) {
            for (int piece = 1; piece <= 6; piece++) {
                for (int cell = 0; cell < 91; cell++) {
                    HexCabinet x = Check.told("put " + (side == 0 ? "white " : "black ") + Oracle.PIECES[piece] + " "
                            + Oracle.name(cell) + ";");
                    Oracle.State s = new Oracle.State();
                    s.set(cell, piece, side);
                    Set<Integer> due = Oracle.attackedFrom(s, cell);
                    for (int to = 0; to < 91; to++) {
                        Check.due(Oracle.PIECES[piece] + " from " + Oracle.name(cell) + " on " + Oracle.name(to),
                                x.cell(to, 4 + side), due.contains(to) ? 1 : 0);
                        Check.due("the other side on " + Oracle.name(to), x.cell(to, 5 - side), 0);
                    }
                }
            }
        }
        // Some by hand: corners and the middle.
        attacked("knight", "f6", 12);
        attacked("knight", "a1", 4);
        attacked("knight", "f1", 4);
        attacked("king", "f6", 12);
        attacked("king", "a1", 5);
        attacked("rook", "f6", 30);
        attacked("rook", "a1", 20);
        attacked("bishop", "f6", 12);
        attacked("queen", "f6", 42);
        attacked("pawn", "f6", 2);
        attacked("pawn", "f11", 0);
        attacked("pawn", "a6", 1);
        attacked("pawn", "a1", 1);
        attacked("pawn", "k1", 1);
    }

    private static void attacked(String piece, String name, int due) {
        HexCabinet x = Check.told("put white " + piece + " " + name + ";");
        int number = 0;
        for (int cell = 0; cell < 91; cell++) {
            number += x.cell(cell, 4);
        }
        Check.due("cells that a " + piece + " attacks from " + name, number, due);
    }

    /** "3 legal moves from it": from every cell, with kings and other pieces that stand in the way. */
    private static void movesFromEveryCell() {
        String[] blocks = {"", "put white pawn f5; put black pawn f7; put black rook d4; put white rook h8;"};
        for (String block : blocks) {
            for (int piece = 2; piece <= 6; piece++) {
                for (int cell = 0; cell < 91; cell++) {
                    HexCabinet x = new HexCabinet();
                    int error = Check.teach(x, "put white king c3; put black king i8;" + block + "put white "
                            + Oracle.PIECES[piece] + " " + Oracle.name(cell) + ";");
                    if (error != 0) {
                        continue;
                    }
                    Oracle o = new Oracle();
                    for (int other = 0; other < 91; other++) {
                        o.now.set(other, x.cell(other, 0), x.cell(other, 1));
                    }
                    int due = o.cell(cell, 3);
                    Check.due("moves of a " + Oracle.PIECES[piece] + " from " + Oracle.name(cell), x.cell(cell, 3), due);
                }
            }
        }
    }

    /** "from a cell of its first ones, those with x of -4 to 4 and y of -1, for x greater than 0 y of -1 - x" */
    private static void firstCells() {
        for (int side = 0; side < 2; side++) {
            String name = side == 0 ? "white" : "black";
            for (int cell = 0; cell < 91; cell++) {
                // The kings stand in a column far away.
                String kings = cell < 45 ? "put white king k1; put black king k6;" : "put white king a1; put black king a6;";
                HexCabinet x = Check.told(kings + "put " + name + " pawn " + Oracle.name(cell) + "; turn " + name + ";");
                int sign = side == 0 ? 1 : -1;
                int px = sign * Oracle.X[cell];
                int py = sign * Oracle.Y[cell];
                boolean first = px >= -4 && px <= 4 && py == (px > 0 ? -1 - px : -1);
                boolean last = Oracle.lastCell(side, cell);
                Check.due("moves of a " + name + " pawn from " + Oracle.name(cell), x.cell(cell, 3), last ? 0 : first ? 2 : 1);
            }
        }
    }

    /** "also by (0, 2), if both cells are empty" */
    private static void bothCellsEmpty() {
        String kings = "put white king a1; put black king k6;";
        String[] sides = {"white", "black"};
        for (String other : sides) {
            pawn(kings + "put white pawn f5;", "f5", 2);
            pawn(kings + "put white pawn f5; put " + other + " knight f6;", "f5", 0);
            pawn(kings + "put white pawn f5; put " + other + " knight f7;", "f5", 1);
            pawn(kings + "put white pawn f5; put " + other + " knight f8;", "f5", 2);
            pawn(kings + "turn black; put black pawn f7;", "f7", 2);
            pawn(kings + "turn black; put black pawn f7; put " + other + " knight f6;", "f7", 0);
            pawn(kings + "turn black; put black pawn f7; put " + other + " knight f5;", "f7", 1);
            pawn(kings + "turn black; put black pawn f7; put " + other + " knight f4;", "f7", 2);
        }
        // A pawn that came to a first cell by taking goes two steps as well.
        HexCabinet x = Check.told(kings + "put white pawn g4; put black rook f5; go g4 f5; go k6 k5;");
        Check.due("moves from f5", of(x, "f5", 3), 2);
        // One that went on from it does not.
        HexCabinet y = Check.told(kings + "put white pawn f5; go f5 f6; go k6 k5;");
        Check.due("moves from f6", of(y, "f6", 3), 1);
    }

    private static void pawn(String text, String from, int due) {
        Check.due("moves from " + from + " of " + text, of(Check.told(text), from, 3), due);
    }

    /** "a cell with a piece of its own side is attacked as well: it is defended; in passing is no attack" */
    private static void defended() {
        HexCabinet x = Check.told("put white rook f1; put white pawn f5;");
        Check.due("white on f5", of(x, "f5", 4), 1);
        Check.due("white on f6", of(x, "f6", 4), 0);
        Check.due("white on its own cell", of(x, "f1", 4), 0);
        // A pawn attacks by its taking steps alone, also empty cells and its own pieces.
        HexCabinet p = Check.told("put white pawn f5; put white knight e5;");
        Check.due("white on g5", of(p, "g5", 4), 1);
        Check.due("white on e5", of(p, "e5", 4), 1);
        HexCabinet alone = Check.told("put white pawn f5;");
        Check.due("white on f6 and f7", of(alone, "f6", 4) + of(alone, "f7", 4), 0);
        // A pawn that can be taken in passing is not attacked by that, nor is the cell between by more than before.
        HexCabinet q = Check.told("put white king a1; put black king k5; put white pawn f5; put black pawn g7; go f5 f7;");
        Check.due("count(9)", q.count(9), Check.cell("f6"));
        Check.due("black on f7", of(q, "f7", 5), 1);
        HexCabinet r = Check.told("put white king a1; put black king k5; put white pawn f5; put black pawn g6; go f5 f7;");
        Check.dueTrue("in passing", r.legal(Check.cell("g6"), Check.cell("f6")));
        Check.due("black on f6", of(r, "f6", 5), 1);
        Check.due("black on f7", of(r, "f7", 5), 0);
        Check.due("moves from g6", of(r, "g6", 3), 2);
    }

    /** "whether its own king would be attacked then does not matter" */
    private static void ownKingDoesNotMatter() {
        HexCabinet x = Check.told("put white king f1; put white rook f3; put black rook f8; put black king k5;");
        Check.due("white on e3, by the rook that is bound", of(x, "e3", 4), 1);
        Check.dueFalse("a move to it", x.legal(Check.cell("f3"), Check.cell("e3")));
        // A king attacks a cell on which it could be taken.
        Check.due("white on g1", of(x, "g1", 4), 1);
        HexCabinet k = Check.told("put white king f6; put black king f8; put black rook a1;");
        Check.due("white on f7", of(k, "f7", 4), 1);
        Check.due("black on f7", of(k, "f7", 5), 1);
        Check.dueFalse("a move to it", k.legal(Check.cell("f6"), Check.cell("f7")));
    }

    /** "over empty cells, to an empty one, or to one with a piece of the other side" */
    private static void behindAPiece() {
        String[] sides = {"white", "black"};
        for (String side : sides) {
            HexCabinet x = Check.told("put white queen f1; put " + side + " pawn f4;");
            Check.due("white on f4", of(x, "f4", 4), 1);
            Check.due("white on f5", of(x, "f5", 4), 0);
            HexCabinet y = Check.told("put white bishop f6; put " + side + " pawn g7;");
            Check.due("white on g7", of(y, "g7", 4), 1);
            Check.due("white on h8", of(y, "h8", 4), 0);
            // A knight jumps: what stands between does not matter.
            HexCabinet z = Check.told("put white knight f6; put " + side + " rook f7; put " + side + " rook g7;");
            Check.due("white on g8", of(z, "g8", 4), 1 + (side.equals("white") ? 1 : 0));
        }
        HexCabinet x = Check.told("put white king a1; put black king k6; put white rook f1; put white pawn f4;");
        Check.dueFalse("own piece", x.legal(Check.cell("f1"), Check.cell("f4")));
        Check.dueFalse("behind it", x.legal(Check.cell("f1"), Check.cell("f5")));
        Check.dueTrue("ahead of it", x.legal(Check.cell("f1"), Check.cell("f3")));
        HexCabinet y = Check.told("put white king a1; put black king k6; put white rook f1; put black pawn f4;");
        Check.dueTrue("piece of the other side", y.legal(Check.cell("f1"), Check.cell("f4")));
        Check.dueFalse("behind it", y.legal(Check.cell("f1"), Check.cell("f5")));
    }

    /** "there are none, if it cannot be played": the attacks are told all the same. */
    private static void notPlayable() {
        HexCabinet x = Check.told("put white rook f1; put black pawn f4;");
        Check.due("moves from f1", of(x, "f1", 3), 0);
        Check.due("white on f4", of(x, "f4", 4), 1);
        HexCabinet y = Check.told("put white king f6; put black king f7;");
        Check.due("moves from f6", of(y, "f6", 3), 0);
        Check.due("white on f7", of(y, "f7", 4), 1);
        Check.due("black on f6", of(y, "f6", 5), 1);
        // Only the side on turn has moves.
        HexCabinet z = Check.told("put white king a1; put black king k6;");
        Check.due("moves from a1", of(z, "a1", 3), 5);
        Check.due("moves from k6", of(z, "k6", 3), 0);
        HexCabinet t = Check.told("put white king a1; put black king k6; turn black;");
        Check.due("moves from a1", of(t, "a1", 3), 0);
        Check.due("moves from k6", of(t, "k6", 3), 5);
    }
}
