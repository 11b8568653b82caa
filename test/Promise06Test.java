/** Promise 6: count. */
public final class Promise06Test {
    public static void main(String[] args) {
        HexCabinet x = Check.told("start;");
        int[] start = {0, 0, 0, 51, 46, 46, 0, 0, 0, -1, 0};
        all(x, "start", start);
        int[] wrong = {-1, 11, Integer.MIN_VALUE, Integer.MAX_VALUE};
        for (int what : wrong) {
            Check.noCell("count(" + what + ")", () -> x.count(what));
        }
        Check.feed(x, "turn");
        Check.due("count(10)", x.count(10), 4);

        movesAndQuiet();
        howItIs();
        worth();
        Check.end();
    }

    private static void all(HexCabinet x, String name, int[] due) {
        for (int what = 0; what < due.length; what++) {
            Check.due(name + ": count(" + what + ")", x.count(what), due[what]);
        }
    }

    private static void how(String text, int how, int white, int black) {
        HexCabinet x = Check.told(text);
        Check.due("count(2) of " + text, x.count(2), how);
        Check.due("count(7) of " + text, x.count(7), white);
        Check.due("count(8) of " + text, x.count(8), black);
        if (how >= 2) {
            Check.due("count(3) of " + text, x.count(3), 0);
        }
    }

    private static void movesAndQuiet() {
        HexCabinet x = Check.told("start;");
        Check.go(x, "b1", "b3");
        Check.due("count(0)", x.count(0), 1);
        Check.due("count(1)", x.count(1), 1);
        // No pawn stands ready, it is told all the same.
        Check.due("count(9)", x.count(9), Check.cell("b2"));
        Check.go(x, "c7", "c5");
        Check.due("count(9)", x.count(9), Check.cell("c6"));
        Check.go(x, "b3", "b4");
        Check.due("count(9)", x.count(9), -1);
        Check.due("count(6)", x.count(6), 0);
        Check.go(x, "g10", "g9");
        Check.due("count(6)", x.count(6), 1);
        Check.go(x, "g1", "g2");
        Check.due("count(6)", x.count(6), 2);
        Check.due("move", Check.go(x, "g9", "g10"), 0);
        Check.due("count(6)", x.count(6), 3);
        // The bishop on f2 takes the pawn on c5, by (-1, 2) three times.
        Check.due("move", Check.go(x, "f2", "c5"), 6);
        Check.due("count(6)", x.count(6), 0);
        Check.due("count(5)", x.count(5), 45);
        Check.due("count(0)", x.count(0), 7);
    }

    private static void howItIs() {
        how("", 5, 0, 0);
        how("put white king c3;", 5, 0, 0);
        how("put black king c3; turn black;", 5, 0, 0);
        // The one who is not on turn is attacked, and the one who is.
        how("put white king a2; put black king k5; put white rook k1;", 5, 0, 0);
        how("put white king a2; put black king k5; put white rook k1; turn black;", 1, 0, 0);
        how("put white king a2; put black king k5;", 0, 0, 0);
        how("put white king a1; put black king a2;", 5, 0, 0);
        // The queen on b2 attacks the corner a1 and all the ways out of it.
        how("put white king c3; put white queen b2; put black king a1; turn black;", 2, 4, 0);
        how("put black king c3; put black queen b2; put white king a1;", 2, 0, 4);
        // The king on c3 alone attacks all that the one on a1 can go to.
        how("put white king c3; put black king a1; turn black;", 3, 3, 1);
        how("put black king c3; put white king a1;", 3, 1, 3);
        how("put black king c3; put white king a1; put white pawn f5;", 0, 0, 0);

        // 60 quiet moves: points for each.
        quietEnds();
    }

    private static void quietEnds() {
        HexCabinet x = Check.told("put white king a1; put black king k6; put white pawn f5; put black pawn f7;");
        String[] from = {"a1", "k6", "a2", "k5"};
        for (int i = 0; i < 60; i++) {
            Check.due("count(6)", x.count(6), i);
            Check.due("count(2)", x.count(2), 0);
            Check.go(x, from[i % 4], from[(i + 2) % 4]);
        }
        Check.due("count(6)", x.count(6), 60);
        Check.due("count(2)", x.count(2), 4);
        Check.due("count(3)", x.count(3), 0);
        Check.due("count(7)", x.count(7), 2);
        Check.due("count(8)", x.count(8), 2);
        Check.noState("a pawn's move behind 60 quiet ones", () -> Check.go(x, "f5", "f6"));
        x.back();
        Check.due("count(2)", x.count(2), 0);
        // The 60th move is a pawn's.
        Check.go(x, "f7", "f6");
        Check.due("count(2)", x.count(2), 0);
        Check.due("count(6)", x.count(6), 0);
    }

    private static void worth() {
        int[] worth = {0, 10, 5, 3, 4, 1};
        String[] piece = {"king", "queen", "rook", "bishop", "knight", "pawn"};
        for (int i = 0; i < 6; i++) {
            HexCabinet x = Check.told("put black pawn a1; put white " + piece[i] + " f6;");
            Check.due("count(4) with a " + piece[i], x.count(4), worth[i]);
            Check.due("count(5) with a " + piece[i], x.count(5), 1);
        }
    }
}
