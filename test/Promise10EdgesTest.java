/** Promise 10, at its boundaries: far. */
public final class Promise10EdgesTest {
    public static void main(String[] args) {
        pieces();
        cells();
        firstNamed();
        noMove();
        never();
        emptyBoard();
        overTheBoard();
        Check.end();
    }

    /** "Throws IllegalArgumentException if piece is not 1 to 5" */
    private static void pieces() {
        HexCabinet x = new HexCabinet();
        Check.due("far of a king", x.far(1, 45, 46), 1);
        Check.due("far of a knight", x.far(5, 45, 46), 2);
        int[] wrong = {0, 6, -1, 7, -5, 256, 257, Integer.MIN_VALUE, Integer.MAX_VALUE};
        for (int piece : wrong) {
            Check.noArgument("far(" + piece + ", 45, 46)", () -> x.far(piece, 45, 46));
            Check.noArgument("far(" + piece + ", 45, 45)", () -> x.far(piece, 45, 45));
            Check.refusedByAll("far(" + piece + ", 0, 90)", IllegalArgumentException.class, y -> y.far(piece, 0, 90));
        }
    }

    /** "Throws IndexOutOfBoundsException if there is no such cell" */
    private static void cells() {
        HexCabinet x = new HexCabinet();
        int[] wrong = {-1, 91, -91, 256, Integer.MIN_VALUE, Integer.MAX_VALUE};
        for (int piece = 1; piece <= 5; piece++) {
            int p = piece;
            Check.due("far(" + p + ", 0, 0)", x.far(p, 0, 0), 0);
            Check.due("far(" + p + ", 90, 90)", x.far(p, 90, 90), 0);
            for (int cell : wrong) {
                Check.noCell("far(" + p + ", " + cell + ", 0)", () -> x.far(p, cell, 0));
                Check.noCell("far(" + p + ", 90, " + cell + ")", () -> x.far(p, 90, cell));
                Check.noCell("far(" + p + ", " + cell + ", " + cell + ")", () -> x.far(p, cell, cell));
            }
        }
        Check.refusedByAll("far(1, -1, 0)", IndexOutOfBoundsException.class, y -> y.far(1, -1, 0));
        Check.refusedByAll("far(5, 0, 91)", IndexOutOfBoundsException.class, y -> y.far(5, 0, 91));
    }

    /** "If several exceptions apply, the one that is named first is thrown." */
    private static void firstNamed() {
        Check.refusedByAll("far(0, -1, 0)", IllegalArgumentException.class, y -> y.far(0, -1, 0));
        Check.refusedByAll("far(6, 0, 91)", IllegalArgumentException.class, y -> y.far(6, 0, 91));
        Check.refusedByAll("far(6, 91, 91)", IllegalArgumentException.class, y -> y.far(6, 91, 91));
    }

    /** "in how many moves, at the fewest": none, where it stands. */
    private static void noMove() {
        HexCabinet x = new HexCabinet();
        for (int piece = 1; piece <= 5; piece++) {
            for (int cell = 0; cell < 91; cell++) {
                Check.due("far(" + piece + ", " + cell + ", the same)", x.far(piece, cell, cell), 0);
            }
        }
    }

    /** "-1 if never": a bishop on another colour, and nothing else. */
    private static void never() {
        for (int from = 0; from < 91; from++) {
            for (int piece = 1; piece <= 5; piece++) {
                HexCabinet x = new HexCabinet();
                for (int to = 0; to < 91; to++) {
                    boolean never = piece == 4 && (Oracle.X[from] - Oracle.Y[from] + 30) % 3
                            != (Oracle.X[to] - Oracle.Y[to] + 30) % 3;
                    int far = x.far(piece, from, to);
                    Check.dueTrue("far(" + piece + ", " + from + ", " + to + ") = " + far, never ? far == -1 : far >= 0);
                    Check.dueTrue("0 only where it stands", (far == 0) == (from == to));
                }
            }
        }
    }

    /** "on an empty board": what stands there does not matter, nor who is on turn. */
    private static void emptyBoard() {
        HexCabinet full = Check.told("start; turn black;");
        HexCabinet empty = new HexCabinet();
        int[] cells = {0, 5, 36, 40, 45, 50, 85, 90};
        for (int piece = 1; piece <= 5; piece++) {
            for (int from : cells) {
                for (int to : cells) {
                    Check.due("far(" + piece + ", " + from + ", " + to + ")", full.far(piece, from, to),
                            empty.far(piece, from, to));
                }
            }
        }
    }

    /** From the corners to all cells: as the second telling has it, and no way leads round behind the border. */
    private static void overTheBoard() {
        int[] corners = {0, 5, 40, 50, 85, 90, 45};
        Oracle o = new Oracle();
        for (int piece = 1; piece <= 5; piece++) {
            for (int from : corners) {
                HexCabinet x = new HexCabinet();
                for (int to = 0; to < 91; to++) {
                    Check.due("far(" + piece + ", " + from + ", " + to + ")", x.far(piece, from, to),
                            o.far(piece, from, to));
                }
            }
        }
        HexCabinet x = new HexCabinet();
        // Ten to the right: three times (2, -1) and (1, 1), and once (1, 0).
        Check.due("king from a1 to k6", x.far(1, 0, 90), 7);
        Check.due("king from f1 to f11", x.far(1, 40, 50), 7);
        Check.due("knight from a1 to k6", x.far(5, 0, 90), 4);
        Check.due("rook from a1 to f11", x.far(3, 0, 50), 2);
    }
}
