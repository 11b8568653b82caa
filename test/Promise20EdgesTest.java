import java.math.BigInteger;

/** Promise 20, at its boundaries: digest. */
public final class Promise20EdgesTest {
    public static void main(String[] args) {
        wrapsAround();
        emptyBoard();
        everyNumber();
        nothingIsLeft();
        Check.end();
    }

    /** Without wrapping around at all, and then the last 64 bits of that as a signed number. */
    private static long digest(HexCabinet x) {
        BigInteger d = BigInteger.valueOf(887);
        BigInteger times = BigInteger.valueOf(31);
        for (int what = 0; what <= 10; what++) {
            d = d.multiply(times).add(BigInteger.valueOf(x.count(what)));
        }
        int[] told = {0, 1, 4, 5};
        for (int cell = 0; cell < 91; cell++) {
            for (int what : told) {
                d = d.multiply(times).add(BigInteger.valueOf(x.cell(cell, what)));
            }
        }
        int moves = x.count(3);
        Check.dueTrue("many enough that it wraps around", d.bitLength() > 64);
        for (int i = 0; i < moves; i++) {
            d = d.multiply(times).add(BigInteger.valueOf(x.nth(i)));
        }
        return d.longValue();
    }

    private static void digest(String text) {
        Check.due("digest() of " + text, Check.told(text).digest(), digest(Check.told(text)));
        Check.due("digest() of the second telling", Oracle.told(text).digest(), Check.told(text).digest());
    }

    /** "which wraps around as a 64-bit integer" */
    private static void wrapsAround() {
        boolean less = false;
        boolean more = false;
        String[] texts = {"", "start;", "turn black;", "put white king a1;", "put white king a1; put black king k6;",
            "start; go f5 f6;", "put white rook a1;", "put black rook k6;", "start; turn black;"};
        for (String text : texts) {
            digest(text);
            long d = Check.told(text).digest();
            less |= d < 0;
            more |= d > 0;
        }
        Check.dueTrue("some are less than 0", less);
        Check.dueTrue("some are more than 0", more);
    }

    /** A board without pieces and without moves: -1 for each side is added, not left out. */
    private static void emptyBoard() {
        long d = 887;
        int[] counts = {0, 0, 5, 0, 0, 0, 0, 0, 0, -1, 0};
        for (int x : counts) {
            d = d * 31 + x;
        }
        for (int cell = 0; cell < 91; cell++) {
            d = d * 31;
            d = d * 31 - 1;
            d = d * 31;
            d = d * 31;
        }
        Check.due("digest() of a new one", new HexCabinet().digest(), d);
        // Mate and stalemate, and over by quiet moves: no moves behind the cells.
        digest("put white king c3; put white queen b2; put black king a1; turn black;");
        digest("put white king c3; put black king a1; turn black;");
        digest("put white king a1; put black king k6;" + Check.quietMoves(59));
        digest("put white king a1; put black king k6;" + Check.quietMoves(60));
    }

    private static void differs(String call, HexCabinet one, HexCabinet other) {
        Check.dueTrue("another digest() with " + call, one.digest() != other.digest());
    }

    /** "what count() tells; for each cell what cell() tells of 0, 1, 4 and 5; the legal moves" */
    private static void everyNumber() {
        String kings = "put white king a1; put black king k6;";
        differs("another side on turn", Check.told(kings), Check.told(kings + "turn black;"));
        differs("a piece more", Check.told(kings), Check.told(kings + "put white pawn f6;"));
        differs("a move to take back", Check.told(kings + "go a1 a2; go k6 k5; go a2 a1; go k5 k6;"), Check.told(kings));
        differs("a cell in passing", Check.told("start; go b1 b3;"), Check.told("start; go b1 b2; go b7 b6; go b2 b3;"));
        HexCabinet x = Check.told(kings);
        x.feed(0, 0, 0, 0, 0);
        differs("bytes on the tape", x, Check.told(kings));
        x.trim(0);
        Check.due("digest() without them", x.digest(), Check.told(kings).digest());
        // An error is no part of it.
        Check.teach(x, "?");
        Check.due("digest() behind an error", x.digest(), Check.told(kings).digest());
        digest("put white king a1; put black king k5; put white pawn f5; put black pawn g6; go f5 f7;");
        digest("put white king a1; put black king k5; put white queen f6; put white knight c4; put black bishop e8;");
        Check.due("digest() of a busy one", Check.busy().digest(), digest(Check.busy()));
    }

    /** It computes, and changes nothing. */
    private static void nothingIsLeft() {
        HexCabinet x = Check.busy();
        long d = x.digest();
        Check.due("digest() again", x.digest(), d);
        Check.alike("digest()", x, Check.busy());
    }
}
