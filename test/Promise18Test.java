/** Promise 18: hanging. */
public final class Promise18Test {
    public static void main(String[] args) {
        hanging("", 0, -1);
        hanging("start;", 0, -1);
        hanging("start;", 1, -1);
        // It does not matter whether it can be played, nor who is on turn.
        hanging("put white rook f1; put black bishop f6;", 1, Check.cell("f6"));
        hanging("put white rook f1; put black bishop f6;", 0, -1);
        hanging("put white rook f1; put black bishop f6; turn black;", 1, Check.cell("f6"));
        hanging("put white rook f1; put black bishop f6; put black rook f11;", 1, -1);
        // Rooks attack each other, and hang both.
        hanging("put white rook f1; put black rook f6;", 0, Check.cell("f1"));
        hanging("put white rook f1; put black rook f6;", 1, Check.cell("f6"));
        // No king is told, but it defends and attacks.
        hanging("put white rook f1; put black king f6;", 1, -1);
        hanging("put white rook f1; put black king f2;", 0, Check.cell("f1"));
        hanging("put white rook f1; put black king f2; put white king g1;", 0, -1);
        // The one with the most worth, of several the least cell.
        String many = "put white rook f6; put black pawn f8; put black knight f2; put black bishop a6;"
                + "put black pawn g6;";
        hanging(many, 1, Check.cell("f2"));
        hanging("put white rook f6; put black pawn f8; put black pawn f4; put black pawn h6;", 1, Check.cell("f4"));
        hanging("put white rook f6; put black pawn f8; put black pawn a6;", 1, Check.cell("a6"));
        hanging("put white rook f6; put black knight f8; put black bishop f4;", 1, Check.cell("f8"));
        hanging("put white rook f6; put black queen f8; put black rook f4; put black king f9;", 1, Check.cell("f4"));
        // A pawn hangs and defends by its taking steps.
        hanging("put white pawn f6; put black rook e6;", 1, Check.cell("e6"));
        hanging("put white rook f1; put black knight f6; put black pawn g6;", 1, -1);

        HexCabinet x = Check.told("start;");
        int[] wrong = {-1, 2, Integer.MIN_VALUE, Integer.MAX_VALUE};
        for (int side : wrong) {
            Check.noCell("hanging(" + side + ")", () -> x.hanging(side));
        }
        Check.end();
    }

    private static void hanging(String text, int side, int due) {
        Check.due("hanging(" + side + ") of " + text, Check.told(text).hanging(side), due);
    }
}
