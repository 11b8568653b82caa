/** Promise 15: lines. */
public final class Promise15Test {
    public static void main(String[] args) {
        HexCabinet x = Check.told("start;");
        Check.due("lines(1)", x.lines(1), 51);
        Check.due("lines(2)", x.lines(2), 2586);
        Check.due("digest() behind it", x.digest(), Check.told("start;").digest());
        int[] wrong = {0, 3, -1, Integer.MIN_VALUE, Integer.MAX_VALUE};
        for (int depth : wrong) {
            Check.noArgument("lines(" + depth + ")", () -> x.lines(depth));
        }
        Check.due("lines(1) on an empty board", new HexCabinet().lines(1), 0);
        Check.due("lines(2) on an empty board", new HexCabinet().lines(2), 0);
        Check.due("lines(2) of a mate",
                Check.told("put white king c3; put white queen b2; put black king a1; turn black;").lines(2), 0);

        // Five ways out of each corner, with 5 answers to each.
        HexCabinet k = Check.told("put white king a1; put black king k6;");
        Check.due("lines(1)", k.lines(1), 5);
        Check.due("lines(2)", k.lines(2), 25);

        // A pawn becomes a queen that leaves the king on a6 no move: only the moves of the king on c6 leave any.
        HexCabinet q = Check.told("put white king c6; put white pawn e9; put black king a6;");
        int answers = 0;
        for (int i = 0; i < q.lines(1); i++) {
            int move = q.nth(i);
            q.move(move / 91, move % 91, 2);
            answers += q.lines(1);
            q.back();
        }
        Check.due("lines(2)", q.lines(2), answers);

        // With 59 quiet moves only the two of the pawn have answers, five each; the king has seven more.
        StringBuilder b = new StringBuilder("put white king a1; put black king k6; put black pawn b7;");
        String[] way = {"go a1 a2;", "go k6 k5;", "go a2 a1;", "go k5 k6;"};
        for (int i = 0; i < 59; i++) {
            b.append(way[i % 4]);
        }
        HexCabinet over = Check.told(b.toString());
        Check.due("lines(1)", over.lines(1), 9);
        Check.due("lines(2)", over.lines(2), 10);
        Check.go(over, "k5", "k6");
        Check.due("lines(1)", over.lines(1), 0);
        Check.due("lines(2)", over.lines(2), 0);
        Check.end();
    }
}
