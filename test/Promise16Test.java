/** Promise 16: mate tells the first legal move that mates. */
public final class Promise16Test {
    public static void main(String[] args) {
        Check.due("mate() on an empty board", new HexCabinet().mate(), -1);
        Check.due("mate() at the start", Check.told("start;").mate(), -1);
        // The king on a1 cannot move, each attack on it mates: first of all from a5.
        String corner = "put white king c3; put black king a1; put white queen b7;";
        HexCabinet x = Check.told(corner);
        Check.due("mate()", x.mate(), Check.move("b7", "a5"));
        Check.due("count(2)", x.count(2), 0);
        // A rook that can step between, on a3: the queen has to come near, beside her king.
        HexCabinet r = Check.told(corner + "put black rook i8;");
        Check.due("mate()", r.mate(), Check.move("b7", "b1"));
        Check.due("no mate for the other side", Check.told(corner + "turn black;").mate(), -1);
        // Only an attack is a mate: taking the last moves is none.
        Check.due("stalemate", Check.told("put white king d4; put black king a1; put white knight k6;").mate(), -1);

        // A pawn becomes a queen, which mates; it is the same by black.
        Check.due("mate()", Check.told("put white king c6; put white pawn e9; put black king a6;").mate(),
                Check.move("e9", "e10"));
        Check.due("mate()", Check.told("put black king c3; put black pawn e2; put white king a1; turn black;").mate(),
                Check.move("e2", "e1"));

        // With the 60th quiet move, too; behind it there is none.
        HexCabinet m = Check.told("put white king c3; put white queen j3; put black king a1; put black knight k4;"
                + "turn black;");
        String[] from = {"k4", "j3", "j7", "j4"};
        for (int i = 0; i < 59; i++) {
            Check.due("count(2)", m.count(2), 0);
            Check.go(m, from[i % 4], from[(i + 2) % 4]);
        }
        Check.due("count(6)", m.count(6), 59);
        int mate = m.mate();
        Check.due("mate() with 59 quiet moves", mate, Check.move("j4", "c1"));
        m.move(mate / 91, mate % 91, 2);
        Check.due("count(6)", m.count(6), 60);
        Check.due("count(2)", m.count(2), 2);
        Check.due("mate()", m.mate(), -1);
        Check.end();
    }
}
