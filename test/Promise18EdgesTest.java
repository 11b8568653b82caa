/** Promise 18, at its boundaries: hanging. */
public final class Promise18EdgesTest {
    public static void main(String[] args) {
        sides();
        none();
        noKing();
        attackedAndNotDefended();
        mostWorth();
        leastCell();
        whoIsOnTurn();
        inPassing();
        Check.end();
    }

    private static void hanging(String text, int white, int black) {
        HexCabinet x = Check.told(text);
        Check.due("hanging(0) of " + text, x.hanging(0), white);
        Check.due("hanging(1) of " + text, x.hanging(1), black);
        Oracle o = Oracle.told(text);
        Check.due("hanging(0) of the second telling", o.hanging(0), white);
        Check.due("hanging(1) of the second telling", o.hanging(1), black);
    }

    private static int c(String name) {
        return Check.cell(name);
    }

    /** "Throws IndexOutOfBoundsException if side is not 0 or 1" */
    private static void sides() {
        HexCabinet x = Check.told("put white rook f1; put black bishop f6;");
        Check.due("hanging(0)", x.hanging(0), -1);
        Check.due("hanging(1)", x.hanging(1), c("f6"));
        int[] wrong = {-1, 2, 3, -2, 256, 257, Integer.MIN_VALUE, Integer.MIN_VALUE + 1, Integer.MAX_VALUE};
        for (int side : wrong) {
            Check.refusedByAll("hanging(" + side + ")", IndexOutOfBoundsException.class, y -> y.hanging(side));
        }
    }

    /** "-1 if there is none." */
    private static void none() {
        hanging("", -1, -1);
        hanging("start;", -1, -1);
        hanging("put white queen f6;", -1, -1);
        hanging("put black queen f6;", -1, -1);
        hanging("put white rook f1; put black bishop f11; put white pawn f6;", -1, -1);
        // The cell 0 is one that can hang, and the last one.
        hanging("put white rook a6; put black bishop a1;", -1, 0);
        hanging("put white bishop k6; put black rook k1;", 90, -1);
    }

    /** "(no king)": a king is not told, but it attacks and defends. */
    private static void noKing() {
        hanging("put white rook f1; put black king f6;", -1, -1);
        hanging("put white rook f1; put black king f6; put black pawn h1;", -1, c("h1"));
        hanging("put white rook f1; put black king f2;", c("f1"), -1);
        hanging("put white rook f1; put black king f2; put white king g1;", -1, -1);
        hanging("put white king f1; put black king f2;", -1, -1);
    }

    /** "that the other side attacks, and no piece of its own side" */
    private static void attackedAndNotDefended() {
        hanging("put white rook f1; put black bishop f6;", -1, c("f6"));
        hanging("put white rook f1; put black bishop f6; put black rook f11;", -1, -1);
        hanging("put white rook f1; put black bishop f6; put white rook f11;", -1, c("f6"));
        // Neither attacked nor defended, and defended without an attack.
        hanging("put white rook e1; put black bishop f6;", -1, -1);
        hanging("put black bishop f6; put black rook f11;", -1, -1);
        // One defends as one attacks: it does not matter how many, nor of what worth.
        hanging("put white rook f1; put white rook f2; put black queen f6; put black pawn g6;", -1, -1);
        // Behind the attacker stands another piece, by which nothing is attacked.
        hanging("put white rook f1; put white pawn f3; put black bishop f6;", -1, -1);
        // A piece that is bound to its king defends.
        hanging("put white rook f1; put black bishop f6; put black rook h6; put black king h9; put white rook h3;"
                + "put black pawn i6;", c("h3"), -1);
    }

    /** "with the most worth": of a pawn, a bishop, a knight, a rook and a queen. */
    private static void mostWorth() {
        String[] pieces = {"pawn", "bishop", "knight", "rook", "queen"};
        for (int less = 0; less < 5; less++) {
            for (int more = less + 1; more < 5; more++) {
                // The queen attacks both, which do not see each other; the better one on the lesser cell, and not.
                String[] cells = {"d6", "f11"};
                for (int turned = 0; turned < 2; turned++) {
                    String low = cells[turned];
                    String high = cells[1 - turned];
                    HexCabinet x = Check.told("put black " + pieces[less] + " " + low + "; put black " + pieces[more] + " "
                            + high + "; put white queen f6;");
                    boolean both = x.cell(c(low), 4) > 0 && x.cell(c(high), 4) > 0
                            && x.cell(c(low), 5) == 0 && x.cell(c(high), 5) == 0;
                    Check.dueTrue("both hang", both);
                    Check.due("hanging(1) with " + pieces[less] + " and " + pieces[more], x.hanging(1), c(high));
                }
            }
        }
    }

    /** "of several the least cell" */
    private static void leastCell() {
        hanging("put white rook f6; put black pawn f8; put black pawn f4; put black pawn h6;", -1, c("f4"));
        hanging("put white rook f6; put black pawn f8; put black pawn a1; put black pawn d4;", -1, c("d4"));
        hanging("put white knight f6; put black knight g8; put black knight e8; put black rook a3;", c("f6"), c("e8"));
        // Two rooks that attack each other hang both.
        hanging("put white rook f1; put black rook f6;", c("f1"), c("f6"));
    }

    /** It does not matter who is on turn, nor whether it can be played. */
    private static void whoIsOnTurn() {
        String text = "put white rook f1; put black bishop f6; put white king a2; put black king k5;";
        hanging(text, -1, c("f6"));
        hanging(text + "turn black;", -1, c("f6"));
        hanging("put white rook f1; put black bishop f6; turn black;", -1, c("f6"));
    }

    /** "in passing is no attack": a pawn that can be taken so does not hang by it. */
    private static void inPassing() {
        String text = "put white king a1; put black king k5; put white pawn f5; put black pawn g6; go f5 f7;";
        Check.dueTrue("in passing", Check.told(text).legal(c("g6"), c("f6")));
        HexCabinet x = Check.told(text);
        Check.due("black on f7", x.cell(c("f7"), 5), 0);
        Check.due("hanging(0)", x.hanging(0), -1);
    }
}
