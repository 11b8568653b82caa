/** Promise 17, at its boundaries: greed. */
public final class Promise17EdgesTest {
    private static final String KINGS = "put white king a2; put black king k5; ";

    public static void main(String[] args) {
        none();
        overByQuietMoves();
        lessThanNothing();
        ofSeveralTheFirst();
        worthOfWhatIsTaken();
        attackedOrNot();
        asAllStandsBehindTheMove();
        inPassing();
        comingToALastCell();
        nothingIsLeft();
        Check.end();
    }

    private static void greed(String text, int due) {
        Check.due("greed() of " + text, Check.told(text).greed(), due);
        Check.due("greed() of the second telling", Oracle.told(text).greed(), due);
    }

    private static void greed(String text, String from, String to) {
        greed(text, Check.move(from, to));
    }

    /** "-1 if there is none." */
    private static void none() {
        greed("", -1);
        greed("put white king a1; put white rook f1; put black queen f6;", -1);
        greed("put white king a1; put black king a2;", -1);
        greed("put white king c3; put white queen b2; put black king a1; turn black;", -1);
        greed("put white king c3; put black king a1; turn black;", -1);
    }

    /** The same over by quiet moves: with 60, not with 59. */
    private static void overByQuietMoves() {
        String text = "put white king a1; put black king k6; put white rook f1; put black pawn f4;"
                + Check.quietMoves(59);
        HexCabinet x = Check.told(text);
        Check.due("count(6)", x.count(6), 59);
        Check.dueTrue("greed() with 59 quiet moves", x.greed() >= 0);
        Check.go(x, "k5", "k6");
        Check.due("greed() with 60", x.greed(), -1);
        Check.due("greed() with quiet moves from 0 on", Check.told(text + "go k5 k6; turn white;").greed(),
                Check.move("f1", "f4"));
    }

    /** "less than 0 too": also then there is a move with the most gain. */
    private static void lessThanNothing() {
        // The king on a1 cannot move, and both moves of the pawn on j7 lose it.
        greed("put white king c3; put black king a1; put black pawn j7; put white rook j1; turn black;", "j7", "j5");
        // One move alone, by which a pawn is lost.
        String pawn = "put white king c3; put black king a1; put black pawn j7; put white pawn j5; put white rook i6;";
        Check.due("lines(1)", Check.told(pawn + "turn black;").lines(1), 1);
        greed(pawn + "turn black;", "j7", "j6");
        // The moves of the bishop take a pawn each, and lose more than that of the pawn.
        greed(pawn + "put black bishop a6; put white pawn b5; put white rook b3; put white pawn c7; put white rook c8;"
                + "turn black;", "j7", "j6");
        // Only the bishop is left: one of its moves loses less than the other.
        greed("put white king c3; put black king a1; put black bishop a6; put white pawn b5; put white rook b3;"
                + "put white rook c7; put white rook c8; turn black;", "a6", "c7");
        greed("put white king c3; put black king a1; put black bishop a6; put white pawn b5; put white rook b3;"
                + "put white pawn c7; put white rook c8; turn black;", "a6", "b5");
    }

    /** "of several the first one" */
    private static void ofSeveralTheFirst() {
        greed(KINGS, "a2", "a1");
        // Two pawns that are not defended: the one on the lesser cell; and two rooks that can take one.
        greed(KINGS + "put white rook f6; put black pawn f8; put black pawn f3;", "f6", "f3");
        greed(KINGS + "put white rook f6; put white rook f11; put black pawn f8;", "f6", "f8");
        // A rook for nothing, and a queen for a rook, are as much: the lesser move of the two.
        greed(KINGS + "put white rook f6; put black queen f3; put black pawn g3; put black rook h6;", "f6", "f3");
        greed(KINGS + "put white rook f6; put black rook f3; put black queen h6; put black pawn i6;", "f6", "f3");
    }

    /** "Worth: queen 10, rook 5, knight 4, bishop 3, pawn 1": the most of two that are not defended. */
    private static void worthOfWhatIsTaken() {
        String[] pieces = {"pawn", "bishop", "knight", "rook", "queen"};
        for (int i = 0; i + 1 < pieces.length; i++) {
            // Neither of the two defends the other one.
            greed(KINGS + "put white queen f6; put black " + pieces[i] + " d6; put black " + pieces[i + 1] + " f11;",
                    "f6", "f11");
        }
        greed(KINGS + "put white knight f6; put black bishop c5; put black knight i4;", "f6", "i4");
        greed(KINGS + "put white knight f6; put black knight c4; put black bishop i5;", "f6", "c4");
    }

    /** "less the worth of the piece that went, if the other side attacks the cell to which it came" */
    private static void attackedOrNot() {
        // A pawn defends the one on f8 by (-1, 0): then the rook is lost.
        greed(KINGS + "put white rook f6; put black pawn f8;", "f6", "f8");
        greed(KINGS + "put white rook f6; put black pawn f8; put black pawn g8;", "a2", "a1");
        // A queen for a rook is a gain of 5 still.
        greed(KINGS + "put white rook f6; put black queen f8; put black pawn g8;", "f6", "f8");
        // A rook for a rook is none, a knight for a rook is a loss.
        greed(KINGS + "put white rook f6; put black rook f8; put black pawn g8;", "a2", "a1");
        greed(KINGS + "put white rook f6; put black knight f8; put black pawn g8;", "a2", "a1");
        // The king of black defends as well, and a piece that is bound to it.
        greed("put white king a2; put black king f10; put white rook f3; put black pawn f8;", "f3", "f8");
        greed("put white king a2; put black king f9; put white rook f3; put black pawn f8;", "a2", "a1");
        greed("put white king a2; put black king g9; put white rook f3; put black pawn f8;", "a2", "a1");
        // The rook on h7 is bound to its king by the one on h1, and defends f7 all the same.
        greed("put white king a2; put black king h9; put white rook f3; put white rook h1; put black rook h7;"
                + "put black pawn i7; put black pawn f7;", "a2", "a1");
        // That white could take again does not matter.
        greed(KINGS + "put white rook f6; put white rook f4; put black knight f8; put black pawn g8;", "a2", "a1");
        // The king is worth nothing.
        greed("put white king f6; put black king k5; put black pawn f7;", "f6", "f7");
    }

    /** "as all stands behind the move": a line that it opens counts, a piece that it takes does not. */
    private static void asAllStandsBehindTheMove() {
        // Behind the rook on f4 stands one of black, which attacks f9 when the rook has gone there.
        greed(KINGS + "put white rook f4; put black pawn f9;", "f4", "f9");
        greed(KINGS + "put white rook f4; put black pawn f9; put black rook f1; put black pawn g1;", "a2", "a3");
        // What is taken attacks nothing any more: a king that takes the rook ahead of it is on none of its lines.
        greed("put white king f6; put black king k5; put black rook f7;", "f6", "f7");
    }

    /** "the worth of what is taken": in passing too, where the pawn that is taken may have covered the cell. */
    private static void inPassing() {
        String both = KINGS + "put white pawn f6; put black pawn g7;";
        greed(both + "turn black; go g7 g5;", "f6", "g6");
        greed(both + "turn black; go g7 g5; turn white;", "a2", "a1");
        greed(both + "put black rook g3; turn black; go g7 g5;", "a2", "a1");
        greed(both + "put black rook g10; turn black; go g7 g5;", "a2", "a1");
    }

    /** "(a queen, if it was a pawn that came to a last cell)", "becoming a queen is no gain" */
    private static void comingToALastCell() {
        greed(KINGS + "put white pawn a5;", "a2", "a1");
        // What it takes there is gain, as long as nothing attacks the queen then.
        greed(KINGS + "put white pawn e9; put black bishop d9;", "e9", "d9");
        greed(KINGS + "put white pawn e9; put black rook d9; put black rook d6;", "a2", "a1");
        // Ten for ten is nothing, as all other moves are, of which that of the king is the first one.
        greed(KINGS + "put white pawn e9; put black queen d9; put black rook d6;", "a2", "a1");
        // A step below the last cell it is a pawn that is lost.
        greed(KINGS + "put white pawn e8; put black queen d8; put black rook d6;", "e8", "d8");
    }

    /** What is asked changes nothing. */
    private static void nothingIsLeft() {
        HexCabinet x = Check.busy();
        x.greed();
        Check.alike("greed()", x, Check.busy());
        String text = KINGS + "put white pawn f6; put black pawn g7; put white pawn e9; put black rook d9; turn black; go g7 g5;";
        HexCabinet y = Check.told(text);
        y.greed();
        Check.alike("greed()", y, Check.told(text));
    }
}
