/** Promise 6, at its boundaries: count, and the sentences of "The game" on how it is. */
public final class Promise06EdgesTest {
    public static void main(String[] args) {
        what();
        movesThatCanBeTakenBack();
        canBePlayed();
        mateAndStalemate();
        sixtyQuietMoves();
        sixtyOrCheck();
        sixtyAndMate();
        sixtyAndStalemate();
        sinceAPawnWent();
        worth();
        inPassing();
        bytes();
        Check.end();
    }

    /** "Throws IndexOutOfBoundsException if what is not 0 to 10" */
    private static void what() {
        HexCabinet x = Check.busy();
        Check.due("count(0)", x.count(0), 4);
        Check.due("count(10)", x.count(10), 30);
        int[] wrong = {-1, 11, 12, -11, 256, 65536, Integer.MIN_VALUE, Integer.MAX_VALUE};
        for (int w : wrong) {
            Check.refusedByAll("count(" + w + ")", IndexOutOfBoundsException.class, y -> y.count(w));
        }
    }

    /** "0 moves that can be taken back": none, one, and one less behind back. */
    private static void movesThatCanBeTakenBack() {
        HexCabinet x = Check.told("start;");
        Check.due("count(0) of none", x.count(0), 0);
        Check.go(x, "f5", "f6");
        Check.due("count(0) of one", x.count(0), 1);
        Check.noState("no move", () -> x.move(0, 1, 2));
        Check.due("count(0) behind a move that is none", x.count(0), 1);
        x.back();
        Check.due("count(0) behind back", x.count(0), 0);
    }

    private static void how(String text, int how, int moves, int white, int black) {
        how(text, Check.told(text), how, moves, white, black);
    }

    private static void how(String text, HexCabinet x, int how, int moves, int white, int black) {
        Check.due("count(2) of " + text, x.count(2), how);
        Check.due("count(3) of " + text, x.count(3), moves);
        Check.due("count(7) of " + text, x.count(7), white);
        Check.due("count(8) of " + text, x.count(8), black);
    }

    /** "It can be played, if there is a king of each side, and the one who is not on turn is not attacked." */
    private static void canBePlayed() {
        how("", 5, 0, 0, 0);
        how("put white king a1;", 5, 0, 0, 0);
        how("put black king a1;", 5, 0, 0, 0);
        how("put white king a1; put black queen k6; put white queen f6;", 5, 0, 0, 0);
        how("put white king a1; put black king k6;", 0, 5, 0, 0);
        how("put white king a1; put black king k6; turn black;", 0, 5, 0, 0);
        // The rook on a6 attacks a1: black may have it, if white is on turn.
        how("put white king a1; put black king k6; put black rook a6;", 1, 4, 0, 0);
        how("put white king a1; put black king k6; put black rook a6; turn black;", 5, 0, 0, 0);
        how("put white king a1; put black king k6; put white rook k1;", 5, 0, 0, 0);
        how("put white king a1; put black king k6; put white rook k1; turn black;", 1, 4, 0, 0);
        // Kings attack each other, by a straight step and by a slanting one; two straight ones are none.
        how("put white king f6; put black king f7;", 5, 0, 0, 0);
        how("put white king f6; put black king g7; turn black;", 5, 0, 0, 0);
        Check.due("count(2)", Check.told("put white king f6; put black king f8;").count(2), 0);
    }

    /** "2 mate, if there is no legal move, and the king ... is attacked; 3 stalemate, if there is none, and it is not" */
    private static void mateAndStalemate() {
        how("put white king c3; put white queen b2; put black king a1; turn black;", 2, 0, 4, 0);
        how("put black king c3; put black queen b2; put white king a1;", 2, 0, 0, 4);
        // It can be taken: no mate.
        how("put white king e5; put white queen b2; put black king a1; turn black;", 1, 1, 0, 0);
        how("put white king c3; put black king a1; turn black;", 3, 0, 3, 1);
        how("put black king c3; put white king a1;", 3, 0, 1, 3);
        // One pawn that can go, or cannot.
        how("put white king c3; put black king a1; put black pawn f7; turn black;", 0, 2, 0, 0);
        how("put white king c3; put black king a1; put black pawn f7; put white pawn f6; turn black;", 3, 0, 3, 1);
        how("put white king c3; put black king a1; put black pawn f7; put white pawn f5; turn black;", 0, 1, 0, 0);
        // Without any move, but not on turn: it is played on.
        Check.due("count(2)", Check.told("put white king c3; put black king a1;").count(2), 0);
    }

    private static HexCabinet quiet(String more, int n) {
        return shuffled("put white king a1; put black king k6;" + more, "a1 k6 a2 k5", n);
    }

    /** "with 60 it is over": not with 59; "with 4 2 to each" */
    private static void sixtyQuietMoves() {
        HexCabinet x = quiet("put white pawn f5;", 58);
        Check.due("count(6)", x.count(6), 58);
        Check.due("count(2)", x.count(2), 0);
        Check.go(x, "a2", "a1");
        Check.due("count(6)", x.count(6), 59);
        how("59 quiet moves", x, 0, 7, 0, 0);
        Check.go(x, "k5", "k6");
        Check.due("count(6)", x.count(6), 60);
        how("60 quiet moves", x, 4, 0, 2, 2);
        for (int cell = 0; cell < 91; cell++) {
            Check.due("moves from " + cell, x.cell(cell, 3), 0);
        }
        Check.due("count(0)", x.count(0), 60);
        x.back();
        Check.due("count(6)", x.count(6), 59);
        how("59 quiet moves again", x, 0, 7, 0, 0);
        // The moves that the tape tells count as well.
        String told = "put white king a1;put black king k6;" + Check.quietMoves(60);
        how("60 quiet moves on the tape", Check.told(told), 4, 0, 2, 2);
        how("60 quiet moves and turn", Check.told(told + "turn white;"), 0, 5, 0, 0);
    }

    /** Moves between two cells of each side in turn, the cells in the order in which they are left. */
    private static HexCabinet shuffled(String text, String cells, int n) {
        HexCabinet x = Check.told(text);
        String[] way = cells.split(" ");
        for (int i = 0; i < n; i++) {
            Check.go(x, way[i % 4], way[(i + 2) % 4]);
        }
        return x;
    }

    /** "4 if it is over by quiet moves; 1 if the king of the side on turn is attacked": the 4 goes first. */
    private static void sixtyOrCheck() {
        String rook = "put white king a1; put black king k6; put white rook f1; turn black;";
        HexCabinet early = shuffled(rook, "k6 a1 k5 a2", 55);
        Check.go(early, "f1", "k1");
        Check.due("count(6)", early.count(6), 56);
        how("check with 56 quiet moves", early, 1, 4, 0, 0);
        HexCabinet x = shuffled(rook, "k6 a1 k5 a2", 59);
        Check.go(x, "f1", "k1");
        Check.due("count(6)", x.count(6), 60);
        Check.due("white on k6", x.cell(90, 4), 1);
        how("check with 60 quiet moves", x, 4, 0, 2, 2);
    }

    /** "2 mate, if there is no legal move (quiet moves left aside)": also with the 60th quiet move. */
    private static void sixtyAndMate() {
        String text = "put white king c3; put white queen j3; put black king a1; put black knight k4; turn black;";
        HexCabinet x = shuffled(text, "k4 j3 j7 j4", 59);
        Check.due("count(6)", x.count(6), 59);
        Check.due("count(2)", x.count(2), 0);
        Check.go(x, "j4", "c1");
        Check.due("count(6)", x.count(6), 60);
        how("mate with 60 quiet moves", x, 2, 0, 4, 0);
    }

    /** "3 stalemate, if there is none (likewise), and it is not": also with the 60th quiet move. */
    private static void sixtyAndStalemate() {
        HexCabinet x = shuffled("put white king e5; put black king a1; turn black;", "a1 e5 a2 d4", 59);
        Check.due("count(6)", x.count(6), 59);
        Check.due("count(2)", x.count(2), 0);
        Check.go(x, "d4", "c3");
        Check.due("count(6)", x.count(6), 60);
        how("stalemate with 60 quiet moves", x, 3, 0, 3, 1);
        x.back();
        // Another 60th move leaves the king a way: it is over by quiet moves.
        Check.go(x, "d4", "e5");
        Check.due("count(6)", x.count(6), 60);
        how("60 quiet moves", x, 4, 0, 2, 2);
    }

    /** "Quiet moves: moves since a pawn went or something was taken" */
    private static void sinceAPawnWent() {
        String more = "put white pawn f5; put white rook b3; put black knight b6; put white pawn e9;";
        String[][] last = {{"a2", "a1", "3"}, {"b3", "b4", "3"}, {"f5", "f6", "0"}, {"f5", "f7", "0"}, {"b3", "b6", "0"},
            {"e9", "e10", "0"}};
        for (String[] move : last) {
            HexCabinet x = quiet(more, 2);
            Check.due("count(6)", x.count(6), 2);
            Check.go(x, move[0], move[1]);
            Check.due("count(6) behind " + move[0] + " " + move[1], x.count(6), Integer.parseInt(move[2]));
            x.back();
            Check.due("count(6) behind back", x.count(6), 2);
        }
        // With the 60th move it is the same: it is not over then.
        HexCabinet x = quiet("put white pawn f6; put black pawn b5; put black rook k1;", 59);
        Check.due("count(6)", x.count(6), 59);
        Check.go(x, "b5", "b4");
        Check.due("count(6) behind a pawn's move", x.count(6), 0);
        Check.due("count(2)", x.count(2), 0);
        x.back();
        Check.go(x, "k1", "j2");
        Check.due("count(6) behind a rook's move", x.count(6), 60);
        Check.due("count(2)", x.count(2), 4);
        x.back();
        Check.due("what is taken", Check.go(x, "k1", "f6"), 6);
        Check.due("count(6) behind taking", x.count(6), 0);
        Check.due("count(2) with the rook on a line with a1", x.count(2), 1);
        x.back();
        Check.due("count(6)", x.count(6), 59);
    }

    /** "Worth: queen 10, rook 5, knight 4, bishop 3, pawn 1, king 0", "added": of none, and of as many as there can be. */
    private static void worth() {
        Check.due("count(4) of none", new HexCabinet().count(4), 0);
        Check.due("count(5) of none", new HexCabinet().count(5), 0);
        String[] pieces = {"king", "queen", "rook", "bishop", "knight", "pawn"};
        int[] worth = {0, 10, 5, 3, 4, 1};
        for (int i = 0; i < pieces.length; i++) {
            for (int side = 0; side < 2; side++) {
                String name = side == 0 ? "white" : "black";
                int most = i == 0 ? 1 : 20;
                StringBuilder b = new StringBuilder();
                for (int n = 1; n <= most; n++) {
                    b.append("put ").append(name).append(' ').append(pieces[i]).append(' ')
                            .append((char) ('a' + n % 11)).append(1 + n / 11).append(';');
                    if (n == 1 || n == most) {
                        HexCabinet x = Check.told(b.toString());
                        Check.due("worth of " + n + " " + pieces[i], x.count(4 + side), n * worth[i]);
                        Check.due("worth of the other side", x.count(5 - side), 0);
                    }
                }
            }
        }
    }

    /** "9 the cell on which a pawn can be taken in passing (whether one stands ready for it or not), -1 for none" */
    private static void inPassing() {
        String[] white = {"b1", "c2", "d3", "e4", "f5", "g4", "h3", "i2", "j1"};
        for (int i = 0; i < white.length; i++) {
            int cell = Check.cell(white[i]);
            HexCabinet x = Check.told("start;");
            Check.due("count(9) at the start", x.count(9), -1);
            x.move(cell, cell + 1, 2);
            Check.due("count(9) behind one step", x.count(9), -1);
            x.back();
            if (x.legal(cell, cell + 2)) {
                x.move(cell, cell + 2, 2);
                Check.due("count(9) behind two steps of " + white[i], x.count(9), cell + 1);
                Check.go(x, "g10", "g9");
                Check.due("count(9) behind the next move", x.count(9), -1);
                x.back();
                Check.due("count(9) behind back()", x.count(9), cell + 1);
            }
            HexCabinet y = Check.told("start; turn black;");
            int top = Check.cell(white[i].charAt(0) + "7");
            y.move(top, top - 1, 2);
            Check.due("count(9) behind one step", y.count(9), -1);
            y.back();
            if (y.legal(top, top - 2)) {
                y.move(top, top - 2, 2);
                Check.due("count(9) behind two steps of black", y.count(9), top - 1);
            }
        }
        // Two single steps, and two steps of another piece, are none.
        HexCabinet x = Check.told("start; go b1 b2; go b7 b6; go b2 b3;");
        Check.due("count(9) behind two moves", x.count(9), -1);
        HexCabinet r = Check.told("put white king a1; put black king k6; put white rook f5; go f5 f7;");
        Check.due("count(9) behind a rook's move", r.count(9), -1);
        // One stands ready, and the pawn is taken.
        HexCabinet p = Check.told("put white king a1; put black king k5; put white pawn f5; put black pawn g6;");
        Check.go(p, "f5", "f7");
        Check.due("count(9)", p.count(9), Check.cell("f6"));
        Check.due("taken", Check.go(p, "g6", "f6"), 6);
        Check.due("count(9) behind it", p.count(9), -1);
    }

    /** "10 bytes of the tape": from 0 to 2000. */
    private static void bytes() {
        HexCabinet x = new HexCabinet();
        Check.due("count(10) of none", x.count(10), 0);
        for (int n = 20; n <= 2000; n += 20) {
            x.feed(0, 0, 0, 0, 0);
            Check.due("count(10)", x.count(10), n);
        }
        Check.noState("feed", () -> x.feed(0, 0, 0, 0, 0));
        Check.due("count(10) behind a feed that is refused", x.count(10), 2000);
        x.trim(1);
        Check.due("count(10) of one", x.count(10), 1);
        x.teach();
        Check.due("count(10) behind teach()", x.count(10), 0);
    }
}
