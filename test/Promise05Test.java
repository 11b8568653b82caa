/** Promise 5: errorAt tells where the error of the latest teach is; which error it is, by the terms. */
public final class Promise05Test {
    public static void main(String[] args) {
        HexCabinet x = new HexCabinet();
        Check.due("errorAt()", x.errorAt(), -1);
        Check.due("teach()", Check.teach(x, "start; stop;"), 1);
        Check.due("errorAt()", x.errorAt(), 7);
        Check.feed(x, "start;");
        Check.due("errorAt()", x.errorAt(), 7);
        Check.due("teach()", x.teach(), 0);
        Check.due("errorAt()", x.errorAt(), -1);

        grammar();
        names();
        puts();
        moves();
        overByQuietMoves();
        Check.end();
    }

    private static void grammar() {
        Check.error("start", 1, 5);
        Check.error("start  ", 1, 7);
        Check.error(";", 1, 0);
        Check.error("start;;", 1, 6);
        Check.error("start; as", 1, 7);
        Check.error("a1;", 1, 0);
        Check.error("put king a1;", 1, 4);
        Check.error("put white a1;", 1, 10);
        Check.error("put white king;", 1, 14);
        Check.error("put white king go;", 1, 15);
        Check.error("put white king white;", 1, 15);
        Check.error("put white king a1 a2;", 1, 18);
        Check.error("put white king a1", 1, 17);
        Check.error("turn;", 1, 4);
        Check.error("turn a1;", 1, 5);
        Check.error("turn white black;", 1, 11);
        Check.error("go;", 1, 2);
        Check.error("go a1;", 1, 5);
        Check.error("go a1 as queen;", 1, 6);
        Check.error("go a1 a2 a3;", 1, 9);
        Check.error("go a1 a2 queen;", 1, 9);
        Check.error("go a1 a2 as;", 1, 11);
        Check.error("go a1 a2 as a1;", 1, 12);
        Check.error("go a1 a2 as queen rook;", 1, 18);
        Check.error("go a1 a2 as queen as queen;", 1, 18);
        // An error 1 goes before all others, wherever it stands.
        Check.error("put white king z9; start; !", 1, 26);
    }

    private static void names() {
        String[] none = {"a0", "a7", "a01", "f12", "f00", "f011", "g11", "k7", "l1", "z1", "a", "aa", "a1a", "a1b2",
            "f1f", "f111", "kings", "f"};
        for (String name : none) {
            Check.error("put black rook " + name + ";", 2, 15);
        }
        String[] some = {"a1", "a6", "b7", "c8", "d9", "e10", "f11", "g10", "h9", "i8", "j7", "k6", "f10"};
        for (String name : some) {
            Check.told("put black rook " + name + ";");
        }
    }

    private static void puts() {
        Check.error("put white king a1; put black rook a1;", 3, 34);
        Check.error("put white king a1; put white king a2;", 3, 29);
        // The king comes ahead of its cell.
        Check.error("put white king a1; put white king a1;", 3, 29);
        Check.error("put white king a1; put white king z1;", 3, 29);
        Check.told("put white king a1; put black king a2;");
        Check.error("start; put white king a1;", 3, 17);

        StringBuilder b = new StringBuilder();
        String columns = "abcdefghijk";
        for (int i = 0; i < 20; i++) {
            b.append("put white rook ").append(columns.charAt(i % 11)).append(1 + i / 11).append(";");
        }
        String twenty = b.toString();
        Check.told(twenty);
        Check.told(twenty + "put black king f6;");
        Check.error(twenty + "put white rook f6;", 4, twenty.length() + 4);
        Check.error(twenty + "put white rook a1;", 4, twenty.length() + 4);
        Check.error(twenty + "put white rook z1;", 4, twenty.length() + 4);
        Check.error(twenty + "put black rook a1;", 3, twenty.length() + 15);
    }

    private static void moves() {
        String kings = "put white king a1; put black king k6; ";
        int n = kings.length();
        Check.error("go a1 a2;", 4, 0);
        Check.error("go z1 z2;", 4, 0);
        Check.error("put white king a1; go a1 a2;", 4, 19);
        Check.error(kings + "go z1 a2;", 2, n + 3);
        Check.error(kings + "go a3 a2;", 4, n + 3);
        Check.error(kings + "go k6 k5;", 4, n + 3);
        Check.error(kings + "go a1 z2;", 2, n + 6);
        Check.error(kings + "go a1 a3;", 4, n + 6);
        Check.error(kings + "go a1 a1;", 4, n + 6);
        Check.error(kings + "go a3 z1;", 4, n + 3);
        Check.told(kings + "go a1 a2; go k6 k5;");
        Check.error(kings + "go a1 a2 as queen;", 5, n + 12);

        String pawn = kings + "put white pawn e9; ";
        int m = pawn.length();
        Check.error(pawn + "go e9 e10 as king;", 5, m + 13);
        Check.error(pawn + "go e9 e10 as pawn;", 5, m + 13);
        Check.told(pawn + "go e9 e10 as rook;");
        Check.told(pawn + "go e9 e10 as bishop;");
        Check.error(pawn + "go a1 a2 as queen;", 5, m + 12);
        Check.error(kings + "put white pawn e8; go e8 e9 as queen;", 5, n + 31);
        // What comes to it must be a pawn.
        Check.error(kings + "put white rook e9; go e9 e10 as queen;", 5, m + 13);
    }

    /** Sixty quiet moves of the kings, ahead of a move that is none any more. */
    private static void overByQuietMoves() {
        StringBuilder b = new StringBuilder("put white king a1; put black king k6; put white rook a6;");
        for (int i = 0; i < 60; i++) {
            String[] way = {"go a1 a2;", "go k6 k5;", "go a2 a1;", "go k5 k6;"};
            b.append(way[i % 4]);
        }
        HexCabinet x = Check.told(b.toString());
        Check.due("count(2)", x.count(2), 4);
        Check.due("count(6)", x.count(6), 60);
        Check.error(b + "go a1 a2;", 4, b.length());
    }
}
