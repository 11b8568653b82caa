/** Promise 12, at its boundaries: nth. */
public final class Promise12EdgesTest {
    public static void main(String[] args) {
        places();
        none();
        overByQuietMoves();
        order();
        oneMoveForAPawn();
        Check.end();
    }

    /** "a place, from 0", "Throws IndexOutOfBoundsException if there is none" */
    private static void places() {
        HexCabinet x = Check.told("start;");
        Check.due("count(3)", x.count(3), 51);
        Check.due("nth(0)", x.nth(0), Check.move("b1", "b2"));
        Check.due("nth(50)", x.nth(50), Check.move("j1", "j3"));
        int[] wrong = {-1, 51, 52, -51, 256, 840, 841, Integer.MIN_VALUE, Integer.MAX_VALUE};
        for (int place : wrong) {
            Check.noCell("nth(" + place + ")", () -> x.nth(place));
            Check.refused("nth(" + place + ")", IndexOutOfBoundsException.class, () -> Check.told("start;"),
                    y -> y.nth(place));
        }
        Check.refusedByAll("nth(-1)", IndexOutOfBoundsException.class, y -> y.nth(-1));
        Check.refusedByAll("nth(count(3))", IndexOutOfBoundsException.class, y -> y.nth(y.count(3)));
        // One move alone: the queen can be taken.
        HexCabinet one = Check.told("put white king e5; put white queen b2; put black king a1; turn black;");
        Check.due("count(3)", one.count(3), 1);
        Check.due("nth(0)", one.nth(0), Check.move("a1", "b2"));
        Check.noCell("nth(1)", () -> one.nth(1));
        Check.noCell("nth(-1)", () -> one.nth(-1));
        // The moves are those of the position as it is: more behind a move, and as many as before behind back().
        HexCabinet k = Check.told("put white king a1; put black king f6;");
        Check.due("nth(4)", k.nth(4), Check.move("a1", "c2"));
        Check.noCell("nth(5)", () -> k.nth(5));
        Check.go(k, "a1", "a2");
        Check.due("nth(11)", k.nth(11), Check.move("f6", "h5"));
        Check.noCell("nth(12)", () -> k.nth(12));
        k.back();
        Check.noCell("nth(5) behind back()", () -> k.nth(5));
    }

    private static void empty(String text) {
        Check.refused("nth(0) of " + text, IndexOutOfBoundsException.class, () -> Check.told(text), x -> x.nth(0));
        Check.refused("nth(-1) of " + text, IndexOutOfBoundsException.class, () -> Check.told(text), x -> x.nth(-1));
    }

    /** No legal moves at all: mate, stalemate, and what cannot be played. */
    private static void none() {
        empty("");
        empty("put white king a1;");
        empty("put white king a1; put black king a2;");
        empty("put white king c3; put white queen b2; put black king a1; turn black;");
        empty("put white king c3; put black king a1; turn black;");
    }

    /** "there are none, if it ... is over by quiet moves" */
    private static void overByQuietMoves() {
        HexCabinet x = Check.told("put white king a1; put black king k6; put white pawn f5;"
                + Check.quietMoves(59));
        int moves = x.count(3);
        Check.due("the last one with 59 quiet moves", x.nth(moves - 1), Check.move("k5", "k6"));
        Check.go(x, "k5", "k6");
        Check.noCell("nth(0) with 60 quiet moves", () -> x.nth(0));
        x.back();
        Check.due("the last one behind back()", x.nth(moves - 1), Check.move("k5", "k6"));
        Check.noCell("nth behind it", () -> x.nth(moves));
    }

    private static void rising(String text) {
        HexCabinet x = Check.told(text);
        int moves = Math.min(x.count(3), 400);
        int before = -1;
        for (int i = 0; i < moves; i++) {
            int move = x.nth(i);
            Check.dueTrue("nth(" + i + ") of " + text + " is " + move + " behind " + before, move > before);
            before = move;
        }
        // All of them are moves, and there are no others.
        HexCabinet y = Check.told(text);
        Oracle o = new Oracle();
        for (int cell = 0; cell < 91; cell++) {
            o.now.set(cell, y.cell(cell, 0), y.cell(cell, 1));
        }
        o.now.turn = y.count(1);
        Check.due("count(3)", y.count(3), o.count(3));
        for (int i = 0; i < moves && i < 180; i++) {
            Check.due("nth(" + i + ") of " + text, y.nth(i), o.nth(i));
        }
    }

    /** "A move is told as 91 times the cell from which it goes, and the one to which, added; ... in the order" */
    private static void order() {
        HexCabinet x = Check.told("put white king a1; put black king k6;");
        Check.due("91 times 0 and 1", x.nth(0), 1);
        Check.go(x, "a1", "a2");
        Check.due("the last move of all", x.nth(4), 91 * 90 + 89);
        rising("start;");
        rising("start; turn black;");
        rising("put white king a1; put black king k5; put white queen f6; put white bishop e4; put white knight g6;");
        // As many queens as there can be.
        StringBuilder b = new StringBuilder("put white king a1; put black king k6; turn white;");
        String[] cells = {"b1", "b4", "b7", "c1", "d1", "e1", "f1", "g1", "h1", "i1", "c8", "d9", "e10", "f11", "g10",
            "h9", "a6", "d5", "g4"};
        for (String cell : cells) {
            b.append("put white queen ").append(cell).append(';');
        }
        rising(b + "turn black;");
        // The king of black is hidden behind its own pieces: they can all go.
        rising(b + "put black pawn k5; put black pawn j7; put black pawn j6; put black pawn j5; put black pawn i7;");
    }

    /** "whatever it becomes, that is one move" */
    private static void oneMoveForAPawn() {
        HexCabinet x = Check.told("put white king a1; put black king k4; put white pawn e9; put black rook d9;");
        int moves = 0;
        for (int i = 0; i < x.count(3); i++) {
            moves += x.nth(i) / 91 == Check.cell("e9") ? 1 : 0;
        }
        Check.due("moves of the pawn", moves, 2);
        Check.due("moves of the pawn", x.cell(Check.cell("e9"), 3), 2);
    }
}
