/** Promise 19: mean. */
public final class Promise19Test {
    public static void main(String[] args) {
        Check.dueDouble("without pieces", new HexCabinet().mean(), 0.0);
        Check.dueDouble("without moves", Check.told("put white rook a1;").mean(), 0.0);
        Check.dueDouble("at the start", Check.told("start;").mean(), 51.0 / 18);
        Check.dueDouble("black at the start", Check.told("start; turn black;").mean(), 51.0 / 18);
        Check.dueDouble("kings", Check.told("put white king a1; put black king k6;").mean(), 5.0);
        // Only the pieces of the side on turn are counted.
        String pawn = "put white king a1; put black king k6; put white pawn f5; put white pawn f6;";
        Check.dueDouble("two pawns", Check.told(pawn).mean(), 2.0);
        Check.dueDouble("the other side", Check.told(pawn + "turn black;").mean(), 5.0);
        Check.dueDouble("stalemate", Check.told("put white king c3; put black king a1; turn black;").mean(), 0.0);
        Check.dueDouble("a third",
                Check.told("put white king a1; put black king k6; put white pawn f5; put white pawn f7;").mean(), 7.0 / 3);
        Check.end();
    }
}
