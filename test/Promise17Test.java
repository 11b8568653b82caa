/** Promise 17: greed tells the first legal move with the most gain. */
public final class Promise17Test {
    public static void main(String[] args) {
        String kings = "put white king a2; put black king k5;";
        Check.due("greed() on an empty board", new HexCabinet().greed(), -1);
        greed("start;", "b1", "b3");
        greed(kings + "put white rook f6; put black queen f9;", "f6", "f9");
        // A defended queen is worth more than the rook, and more than a pawn that is not defended.
        greed(kings + "put white rook f6; put black queen f9; put black rook f11; put black pawn f3;", "f6", "f9");
        greed(kings + "put white rook f6; put black knight f9; put black rook f11; put black pawn f3;", "f6", "f3");
        // Without any taking that gains, the first move that loses nothing.
        greed(kings + "put white rook f6; put black knight f9; put black rook f11;", "a2", "a1");
        greed(kings, "a2", "a1");
        // In passing a pawn is taken.
        greed(kings + "put white pawn f6; put black pawn g7; turn black; go g7 g5;", "f6", "g6");
        greed(kings + "put white pawn f6; put black pawn g7; put black rook g10; turn black; go g7 g5;", "a2", "a1");
        // To become a queen is no gain, and she can be lost.
        greed(kings + "put white pawn a5;", "a2", "a1");
        greed(kings + "put white pawn e9; put black rook d9;", "e9", "d9");
        greed(kings + "put white pawn e9; put black rook d9; put black rook d1;", "a2", "a3");
        greed(kings + "put white pawn e8; put black rook d8; put black rook d1;", "e8", "d8");
        // What takes a king's attacker loses nothing: the king is worth 0.
        greed("put white king f6; put black king k5; put black pawn f7;", "f6", "f7");

        // The king on a1 cannot move, and both moves of the pawn on j7 lose it.
        greed("put white king c3; put black king a1; put black pawn j7; put white rook j1; turn black;", "j7", "j5");
        Check.end();
    }

    private static void greed(String text, String from, String to) {
        HexCabinet x = Check.told(text);
        long before = x.digest();
        Check.due("greed() of " + text, x.greed(), Check.move(from, to));
        Check.due("digest()", x.digest(), before);
    }
}
