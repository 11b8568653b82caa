/** Promise 11, at its boundaries: legal, and the sentences of "The board" and "The game" on legal moves. */
public final class Promise11EdgesTest {
    private static final String KINGS = "put white king a1; put black king k6; ";

    public static void main(String[] args) {
        noSuchCell();
        stayingThere();
        sideOnTurn();
        offTheBoard();
        pawnSteps();
        latestMove();
        otherSide();
        everyPassing();
        ownKing();
        boundOnAllLines();
        ownKingInPassing();
        notPlayable();
        overByQuietMoves();
        Check.end();
    }

    private static void due(HexCabinet x, String from, String to, boolean due) {
        Check.due("legal " + from + " " + to, x.legal(Check.cell(from), Check.cell(to)) ? 1 : 0, due ? 1 : 0);
    }

    /** "Throws IndexOutOfBoundsException if there is no such cell" */
    private static void noSuchCell() {
        HexCabinet x = Check.told(KINGS);
        Check.dueTrue("legal(0, 1)", x.legal(0, 1));
        Check.dueFalse("legal(90, 0)", x.legal(90, 0));
        Check.dueFalse("legal(0, 90)", x.legal(0, 90));
        int[] wrong = {-1, 91, -91, 92, 256, Integer.MIN_VALUE, Integer.MAX_VALUE};
        for (int cell : wrong) {
            for (int other : wrong) {
                Check.noCell("legal(" + cell + ", " + other + ")", () -> x.legal(cell, other));
            }
            Check.refusedByAll("legal(" + cell + ", 0)", IndexOutOfBoundsException.class, y -> y.legal(cell, 0));
            Check.refusedByAll("legal(90, " + cell + ")", IndexOutOfBoundsException.class, y -> y.legal(90, cell));
        }
        // 91 times -1 and 92 more is the move from 0 to 1; no cell is -1 all the same.
        Check.noCell("legal(-1, 92)", () -> x.legal(-1, 92));
        Check.noCell("legal(1, -90)", () -> x.legal(1, -90));
    }

    /** A move leads to another cell. */
    private static void stayingThere() {
        HexCabinet x = Check.told("start;");
        for (int cell = 0; cell < 91; cell++) {
            Check.dueFalse("legal(" + cell + ", the same)", x.legal(cell, cell));
        }
    }

    /** "A legal move is one of a piece of the side on turn" */
    private static void sideOnTurn() {
        HexCabinet w = Check.told("start;");
        due(w, "f5", "f6", true);
        due(w, "f7", "f6", false);
        due(w, "f6", "f7", false);
        HexCabinet b = Check.told("start; turn black;");
        due(b, "f5", "f6", false);
        due(b, "f7", "f6", true);
        // Behind a move it is the other one, behind back() the first one.
        Check.go(w, "f5", "f6");
        due(w, "f6", "f7", false);
        due(w, "g7", "g6", true);
        w.back();
        due(w, "f5", "f6", true);
    }

    /** "a rook goes any number of the same straight steps", up to the last cell of the board. */
    private static void offTheBoard() {
        HexCabinet x = Check.told(KINGS + "put white rook f1;");
        due(x, "f1", "f11", true);
        due(x, "f1", "a1", false);
        due(x, "f1", "b1", true);
        due(x, "f1", "k1", true);
        // The cell behind f11 by number is g1, that ahead of f1 is e10.
        due(x, "f1", "e10", false);
        HexCabinet y = Check.told(KINGS + "put white rook f11; turn white;");
        due(y, "f11", "g1", false);
        HexCabinet k = Check.told("put white king b7; put black king k6;");
        due(k, "b7", "c1", false);
        due(k, "b7", "a6", true);
        // A slanting step leads between two cells: what stands on these is not in its way.
        HexCabinet b = Check.told(KINGS + "put white bishop f6; put white pawn f7; put black pawn g6;");
        due(b, "f6", "g7", true);
        due(b, "f6", "h8", true);
        due(b, "f6", "f7", false);
        due(b, "f6", "g6", false);
        // "a king one straight or slanting step"
        HexCabinet m = Check.told("put white king f6; put black king k6;");
        due(m, "f6", "f7", true);
        due(m, "f6", "f8", false);
        due(m, "f6", "g7", true);
        due(m, "f6", "h8", false);
        due(m, "f6", "h5", true);
    }

    /** "A white pawn goes by (0, 1) to an empty cell; from a cell of its first ones ... also by (0, 2)" */
    private static void pawnSteps() {
        HexCabinet x = Check.told(KINGS + "put white pawn f5; put white pawn e5; put black rook g5; turn white;");
        due(x, "f5", "f6", true);
        due(x, "f5", "f7", true);
        due(x, "f5", "f8", false);
        due(x, "f5", "f4", false);
        due(x, "f5", "g5", true);
        due(x, "f5", "e5", false);
        due(x, "e5", "e6", true);
        due(x, "e5", "e7", false);
        HexCabinet b = Check.told(KINGS + "put black pawn f7; put white rook e6; put black pawn g7; turn black;");
        due(b, "f7", "f6", true);
        due(b, "f7", "f5", true);
        due(b, "f7", "f4", false);
        due(b, "f7", "f8", false);
        due(b, "f7", "e7", false);
        due(b, "f7", "e6", true);
        due(b, "f7", "g7", false);
        due(b, "f7", "g6", false);
        HexCabinet t = Check.told(KINGS + "put black pawn f7; put white knight e7; put white knight g6; turn black;");
        due(t, "f7", "e7", false);
        due(t, "f7", "e6", false);
        due(t, "f7", "g6", true);
        // A pawn does not take straight ahead, nor over a piece.
        HexCabinet s = Check.told(KINGS + "put white pawn f5; put black pawn f6;");
        due(s, "f5", "f6", false);
        due(s, "f5", "f7", false);
        HexCabinet two = Check.told(KINGS + "put white pawn f5; put black pawn f7;");
        due(two, "f5", "f6", true);
        due(two, "f5", "f7", false);
    }

    private static HexCabinet passing(String more) {
        return Check.told("put white king a1; put black king k5; put white pawn f5; put black pawn g6;" + more);
    }

    /** "if a pawn went by two steps with the latest move": not by one, and not behind another move. */
    private static void latestMove() {
        HexCabinet x = passing("");
        due(x, "g6", "f6", false);
        Check.go(x, "f5", "f7");
        due(x, "g6", "f6", true);
        due(x, "g6", "f7", false);
        due(x, "g6", "g5", true);
        Check.go(x, "k5", "k4");
        Check.go(x, "a1", "a2");
        due(x, "g6", "f6", false);
        x.back();
        x.back();
        due(x, "g6", "f6", true);
        x.back();
        due(x, "g6", "f6", false);
        // Two times one step.
        HexCabinet one = passing("go f5 f6; go k5 k4; go f6 f7;");
        due(one, "g6", "f6", false);
        // Put there.
        HexCabinet put = Check.told("put white king a1; put black king k5; put white pawn f7; put black pawn g6; turn black;");
        due(put, "g6", "f6", false);
        // Another piece that went so is not taken.
        HexCabinet rook = Check.told("put white king a1; put black king k6; put white rook f5; put black pawn g6; go f5 f7;");
        due(rook, "g6", "f6", false);
    }

    /** "a pawn of the other side can take on the cell between": no other piece, and from its taking steps alone. */
    private static void otherSide() {
        HexCabinet x = passing("put black pawn e6; put black pawn e5; put white pawn e4; put black rook f10; go f5 f7;");
        due(x, "g6", "f6", true);
        // From e6, x -1 and y 1, black takes by (1, -1) on f6, x 0 and y 0.
        due(x, "e6", "f6", true);
        due(x, "e5", "f6", false);
        due(x, "f10", "f6", false);
        HexCabinet knight = passing("put black knight g4; go f5 f7;");
        Check.due("count(9)", knight.count(9), Check.cell("f6"));
        HexCabinet queen = passing("put black queen f6; put white pawn c2;");
        due(queen, "f5", "f7", false);
        HexCabinet bishop = passing("put black bishop g7; go f5 f7;");
        // A bishop from g7, x 1 and y 1, goes by (-1, -1) to f6, which is empty: nothing is taken.
        due(bishop, "g7", "f6", true);
        Check.due("taken", Check.go(bishop, "g7", "f6"), 0);
        Check.due("the pawn that went by two steps", bishop.cell(Check.cell("f7"), 0), 6);
    }

    /** For every first cell, by white and by black: the two cells from which the one between is taken. */
    private static void everyPassing() {
        for (int side = 0; side < 2; side++) {
            String own = side == 0 ? "white" : "black";
            String other = side == 0 ? "black" : "white";
            int up = side == 0 ? 1 : -1;
            for (int cell = 0; cell < 91; cell++) {
                if (!Oracle.firstCell(side, cell)) {
                    continue;
                }
                String kings = Oracle.COLUMN[cell] < 5 ? "put white king k1; put black king k6;"
                        : "put white king a1; put black king a6;";
                int between = cell + up;
                for (int from = 0; from < 91; from++) {
                    int dx = Oracle.X[between] - Oracle.X[from];
                    int dy = Oracle.Y[between] - Oracle.Y[from];
                    if (Math.abs(dx) > 2 || Math.abs(dy) > 2 || Oracle.COLUMN[from] == Oracle.COLUMN[cell]) {
                        continue;
                    }
                    HexCabinet x = new HexCabinet();
                    int error = Check.teach(x, kings + "put " + own + " pawn " + Oracle.name(cell) + "; put " + other + " pawn "
                            + Oracle.name(from) + "; turn " + own + ";go " + Oracle.name(cell) + " " + Oracle.name(cell + 2 * up) + ";");
                    boolean takes = dx == -up && dy == 0 || dx == up && dy == -up;
                    if (error == 0) {
                        Check.due("legal " + Oracle.name(from) + " " + Oracle.name(between), x.legal(from, between) ? 1 : 0, takes ? 1 : 0);
                    } else {
                        // A pawn that stands near a king may attack it: then it cannot be played.
                        Check.dueFalse("an error with a pawn that takes", takes);
                    }
                }
            }
        }
    }

    /** "behind which its own king is not attacked" */
    private static void ownKing() {
        // One rook on the line of the king: it goes off the line, not along it, and takes it if it is near enough.
        HexCabinet x = Check.told("put white king f5; put black rook f6; put black king k6;");
        due(x, "f5", "f6", true);
        due(x, "f5", "f4", false);
        due(x, "f5", "g5", false);
        HexCabinet d = Check.told("put white king f5; put black rook f6; put black rook f11; put black king k6;");
        due(d, "f5", "f6", false);
        // A piece between is bound, two are not.
        HexCabinet one = Check.told("put white king f1; put white rook f3; put black rook f8; put black king k5;");
        due(one, "f3", "g3", false);
        due(one, "f3", "f8", true);
        due(one, "f3", "f9", false);
        HexCabinet two = Check.told("put white king f1; put white rook f3; put white rook f4; put black rook f8;"
                + "put black king k5;");
        due(two, "f3", "g3", true);
        due(two, "f4", "g4", true);
        // A bishop does not bind on a straight line, nor a rook on a slanting one; a queen does on both.
        HexCabinet bishop = Check.told("put white king f1; put white rook f3; put black bishop f8; put black king k5;");
        due(bishop, "f3", "g3", true);
        HexCabinet slanting = Check.told("put white king f5; put white rook g6; put black bishop h7; put black king k5;");
        due(slanting, "g6", "g7", false);
        HexCabinet rook = Check.told("put white king f5; put white rook g6; put black rook h7; put black king k5;");
        due(rook, "g6", "g7", true);
        // A knight is not bound away: from two attackers only the king goes.
        HexCabinet both = Check.told("put white king f1; put white rook a3; put black rook f8; put black knight g3;"
                + "put black king k5;");
        Check.due("black on f1", both.cell(Check.cell("f1"), 5), 2);
        Check.due("moves of the rook", both.cell(Check.cell("a3"), 3), 0);
    }

    private static int[] step(int line) {
        return line < 6 ? Oracle.STRAIGHT[line] : Oracle.SLANTING[line - 6];
    }

    /** A knight one step from the king, and two steps from it the rook or the bishop that binds it. */
    private static String bound(int king, int line, String own, String other) {
        int x = Oracle.X[king];
        int y = Oracle.Y[king];
        int[] step = step(line);
        return "put " + own + " knight " + Oracle.name(Oracle.cellAt(x + step[0], y + step[1])) + ";put " + other
                + (line < 6 ? " rook " : " bishop ") + Oracle.name(Oracle.cellAt(x + 2 * step[0], y + 2 * step[1])) + ";";
    }

    private static void knightIsBound(HexCabinet x, int king, int line) {
        int knight = Oracle.cellAt(Oracle.X[king] + step(line)[0], Oracle.Y[king] + step(line)[1]);
        Check.due("moves of a knight on line " + line + " of " + Oracle.name(king), x.cell(knight, 3), 0);
        Check.dueTrue("it can be played", x.count(2) != 5);
    }

    /** The same by both sides, on each of the twelve lines that there are, one behind the other and all at once. */
    private static void boundOnAllLines() {
        String[] sides = {"white", "black"};
        int middle = Check.cell("f6");
        for (String own : sides) {
            String other = own.equals("white") ? "black" : "white";
            String turn = "turn " + own + ";";
            String kings = "put " + own + " king f6;put " + other + " king k1;";
            StringBuilder all = new StringBuilder(kings);
            for (int line = 0; line < 12; line++) {
                knightIsBound(Check.told(kings + bound(middle, line, own, other) + turn), middle, line);
                all.append(bound(middle, line, own, other));
            }
            HexCabinet x = Check.told(all + turn);
            Check.due("all twelve at once", x.count(3), 0);
            Check.due("count(2) of it", x.count(2), 3);
            boundOnOneObject(own, other);
        }
    }

    /** On one object, one behind the other: none is remembered too long, none is overlooked. */
    private static void boundOnOneObject(String own, String other) {
        String[] names = {"f6", "f7", "f5", "e5"};
        HexCabinet x = new HexCabinet();
        for (int i = 0; i < 40; i++) {
            int line = i * 7 % 12;
            int king = Check.cell(names[i / 12]);
            Check.due("teach()", Check.teach(x, "put " + own + " king " + names[i / 12] + ";put " + other + " king k1;"
                    + bound(king, line, own, other) + "turn " + own + ";"), 0);
            knightIsBound(x, king, line);
        }
    }

    /** "as if it stood there; that pawn is taken": then it covers nothing any more. */
    private static void ownKingInPassing() {
        // e6, f6, g5 and h4 are one straight line.
        String line = "put white king e6; put white pawn f6; put black pawn g7; put black king k5;";
        HexCabinet free = Check.told(line + "turn black; go g7 g5;");
        due(free, "f6", "g6", true);
        HexCabinet bound = Check.told(line + "put black rook h4; turn black; go g7 g5;");
        due(bound, "f6", "g6", false);
        due(bound, "f6", "f7", true);
        // With a piece more between, it can.
        HexCabinet covered = Check.told(line + "put black rook i3; put white knight h4; turn black; go g7 g5;");
        due(covered, "f6", "g6", true);
        // The pawn that gives check is taken in passing.
        HexCabinet check = Check.told("put white king f5; put white pawn f6; put black pawn g7; put black king k5;"
                + "put white rook a1; turn black; go g7 g5;");
        Check.due("count(2)", check.count(2), 1);
        due(check, "f6", "g6", true);
        due(check, "a1", "a2", false);
    }

    /** "there are none, if it cannot be played" */
    private static void notPlayable() {
        due(Check.told("put white king a1;"), "a1", "a2", false);
        due(Check.told("put white queen a1; put black king k6;"), "a1", "a2", false);
        HexCabinet x = Check.told("put white king a1; put black king k6; put black rook a6; turn black;");
        due(x, "a6", "a1", false);
        due(x, "k6", "k5", false);
        due(new HexCabinet(), "a1", "a2", false);
    }

    /** "or is over by quiet moves": with 60, not with 59. */
    private static void overByQuietMoves() {
        HexCabinet x = Check.told(KINGS + "put white pawn f5; put black pawn b5;"
                + Check.quietMoves(59));
        Check.due("count(6)", x.count(6), 59);
        due(x, "k5", "k6", true);
        due(x, "b5", "b4", true);
        Check.go(x, "k5", "k6");
        for (int from = 0; from < 91; from += 30) {
            for (int to = 0; to < 91; to++) {
                Check.dueFalse("legal behind 60 quiet moves", x.legal(from, to));
            }
        }
        due(x, "f5", "f6", false);
        due(x, "a1", "a2", false);
        x.back();
        due(x, "b5", "b4", true);
    }
}
