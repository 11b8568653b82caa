/** Promise 14: back takes the latest move back, and all is as it was. */
public final class Promise14Test {
    public static void main(String[] args) {
        HexCabinet x = new HexCabinet();
        Check.noState("back()", x::back);
        Check.teach(x, "start;");
        Check.noState("back()", x::back);

        thereAndBack("start;", "b1 b3 c7 c5 g1 g2 g10 g9 f2 c5");
        // In passing, and what stood there ahead of it.
        thereAndBack("put white king a2; put black king k5; put white pawn f6; put black pawn g7; turn black;",
                "g7 g5 f6 g6 k5 k6");
        thereAndBack("put white king a2; put black king k5; put black pawn f6; put white pawn e4;",
                "e4 e6 f6 e5 a2 a1");
        // A piece that a pawn became is a pawn again, and what it took is there.
        thereAndBack("put white king a2; put black king k4; put white pawn e9; put black rook d9;", "e9 d9 k4 k3");
        thereAndBack("put white king a2; put black king k4; put white pawn e9; put black rook d9;", "e9 e10 k4 k3");

        // Moves of go can be taken back as well.
        HexCabinet g = Check.told("start; go b1 b3; go b7 b5;");
        long start = Check.told("start;").digest();
        Check.due("back()", g.back(), 1);
        Check.due("count(9)", g.count(9), Check.cell("b2"));
        Check.due("back()", g.back(), 0);
        Check.due("digest()", g.digest(), start);
        Check.noState("back()", g::back);
        Check.due("digest()", g.digest(), start);

        // Behind a mate it can be gone back, too; the tape is no part of a move.
        HexCabinet m = Check.told("put white king c3; put white queen b7; put black king a1;");
        Check.go(m, "b7", "b2");
        Check.due("count(2)", m.count(2), 2);
        Check.feed(m, "start;");
        Check.due("back()", m.back(), 0);
        Check.due("count(2)", m.count(2), 0);
        Check.due("count(10)", m.count(10), 6);

        asManyAsThereAre();
        Check.end();
    }

    private static void thereAndBack(String text, String moves) {
        HexCabinet x = Check.told(text);
        String[] cells = moves.split(" ");
        long[] digests = new long[cells.length / 2];
        for (int i = 0; i < digests.length; i++) {
            digests[i] = x.digest();
            Check.go(x, cells[2 * i], cells[2 * i + 1]);
            Check.due("count(0)", x.count(0), i + 1);
        }
        for (int i = digests.length - 1; i >= 0; i--) {
            Check.due("back() to " + i + " of " + moves, x.back(), i);
            Check.due("digest() at " + i + " of " + moves, x.digest(), digests[i]);
        }
    }

    /** Moves of the tape and moves behind it; a pawn goes between, as 60 quiet ones end it. */
    private static void asManyAsThereAre() {
        StringBuilder b = new StringBuilder("put white king a1;put black king k6;put white pawn f1;");
        String[] way = {"go a1 a2;", "go k6 k5;", "go a2 a1;", "go k5 k6;"};
        int made = 49;
        for (int i = 0; i < 48; i++) {
            b.append(way[i % 4]);
        }
        b.append("go f1 f2;");
        HexCabinet x = Check.told(b.toString());
        Check.due("count(0)", x.count(0), made);
        String[] from = {"k6", "a1", "k5", "a2"};
        for (int i = 0; i < 59; i++) {
            Check.go(x, from[i % 4], from[(i + 2) % 4]);
            made++;
        }
        Check.due("count(0)", x.count(0), made);
        for (int i = made - 1; i >= 0; i--) {
            Check.due("back()", x.back(), i);
        }
        Check.noState("back()", x::back);
        Check.due("f1", x.cell(Check.cell("f1"), 0), 6);
        Check.due("count(6)", x.count(6), 0);
    }
}
