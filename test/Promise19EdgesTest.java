/** Promise 19, at its boundaries: mean. */
public final class Promise19EdgesTest {
    public static void main(String[] args) {
        withoutAny();
        noMoves();
        sideOnTurn();
        wholeAndBroken();
        quietMoves();
        Check.end();
    }

    private static void mean(String text, double due) {
        Check.dueDouble("mean() of " + text, Check.told(text).mean(), due);
    }

    /** "0 without any": without a piece of the side on turn. */
    private static void withoutAny() {
        Check.dueDouble("mean() of a new one", new HexCabinet().mean(), 0.0);
        mean("", 0.0);
        mean("put black king a1; put black queen f6;", 0.0);
        mean("put white king a1; put white queen f6; turn black;", 0.0);
    }

    /** Pieces without legal moves: 0 divided by how many there are. */
    private static void noMoves() {
        mean("put white king a1;", 0.0);
        mean("put white king a1; put black king a2;", 0.0);
        mean("put white king c3; put white queen b2; put black king a1; turn black;", 0.0);
        mean("put white king c3; put black king a1; turn black;", 0.0);
    }

    /** "the pieces of the side on turn" */
    private static void sideOnTurn() {
        String text = "put white king a1; put black king k6; put white pawn c4; put white pawn f6; put white pawn i3;";
        mean(text, 2.0);
        mean(text + "turn black;", 5.0);
        HexCabinet x = Check.told(text);
        Check.go(x, "a1", "a2");
        Check.dueDouble("mean() behind a move", x.mean(), 5.0);
        x.back();
        Check.dueDouble("mean() behind back()", x.mean(), 2.0);
        // A piece that is taken is none any more.
        HexCabinet y = Check.told("put white king a1; put black king k6; put black pawn f4; put white rook f1;");
        Check.go(y, "f1", "f4");
        Check.dueDouble("mean() behind taking", y.mean(), 5.0);
    }

    /** "the legal moves divided by the pieces": not cut off, nor rounded. */
    private static void wholeAndBroken() {
        mean("start;", 51.0 / 18);
        mean("put white king a1; put black king k6;", 5.0);
        mean("put white king a1; put black king k6; put white pawn f6;", 3.0);
        mean("put white king a1; put black king k6; put white pawn f5; put white pawn f8;", 8.0 / 3);
        mean("put white king a1; put black king k6; put white pawn f5; put white pawn f7;", 7.0 / 3);
        // Less than 1: nine pawns that cannot go, and a king.
        String[] columns = {"b", "c", "d", "e", "f", "g", "h", "i", "j"};
        StringBuilder b = new StringBuilder("put white king a1; put black king k6;");
        for (String column : columns) {
            b.append("put white pawn ").append(column).append("5; put black pawn ").append(column).append("6;");
        }
        double moves = Oracle.told(b.toString()).count(3);
        Check.dueDouble("mean() with pawns", Check.told(b.toString()).mean(), moves / 10);
        // Twenty pieces, as many as there can be.
        StringBuilder t = new StringBuilder("put white king a1; put black king k6;");
        for (int i = 0; i < 19; i++) {
            t.append("put white pawn ").append((char) ('a' + i % 10)).append(3 + i / 10).append(';');
        }
        double many = Oracle.told(t.toString()).count(3);
        Check.dueDouble("mean() with 20 pieces", Check.told(t.toString()).mean(), many / 20);
    }

    /** "there are none, if it ... is over by quiet moves" */
    private static void quietMoves() {
        HexCabinet x = Check.told("put white king a1; put black king k6;"
                + Check.quietMoves(59));
        Check.dueTrue("mean() with 59 quiet moves", x.mean() > 0.0);
        Check.go(x, "k5", "k6");
        Check.dueDouble("mean() with 60", x.mean(), 0.0);
        x.back();
        Check.dueTrue("mean() with 59 again", x.mean() > 0.0);
    }
}
