/** Promise 12: nth tells the legal moves in their order. */
public final class Promise12Test {
    public static void main(String[] args) {
        HexCabinet x = Check.told("start;");
        Check.due("nth(0)", x.nth(0), Check.move("b1", "b2"));
        Check.due("nth(1)", x.nth(1), Check.move("b1", "b3"));
        inOrder(x);
        Check.noCell("nth(-1)", () -> x.nth(-1));
        Check.noCell("nth(51)", () -> x.nth(51));
        Check.noCell("nth of the least", () -> x.nth(Integer.MIN_VALUE));
        Check.noCell("nth of the greatest", () -> x.nth(Integer.MAX_VALUE));
        Check.go(x, "b1", "b2");
        inOrder(x);
        x.back();
        Check.due("nth(0)", x.nth(0), Check.move("b1", "b2"));

        HexCabinet q = Check.told("put white king a2; put black king k5; put white queen f6; put white knight e5;");
        inOrder(q);
        Check.noCell("nth(0) on an empty board", () -> new HexCabinet().nth(0));

        // All moves of one king in the corner: a2 b1 b2 b3 c2.
        HexCabinet k = Check.told("put white king a1; put black king k6;");
        String[] to = {"a2", "b1", "b2", "b3", "c2"};
        for (int i = 0; i < to.length; i++) {
            Check.due("nth(" + i + ")", k.nth(i), Check.move("a1", to[i]));
        }
        Check.noCell("nth(5)", () -> k.nth(5));

        // 19 queens have many moves.
        StringBuilder b = new StringBuilder("put white king a1; put black king k6;");
        String[] cells = {"b1", "b3", "b5", "b7", "c1", "d1", "e1", "f1", "g1", "h1", "i1", "j1", "c8", "d9", "e10",
            "f11", "g10", "h9"};
        for (String cell : cells) {
            b.append("put white queen ").append(cell).append(";");
        }
        b.append("turn black;");
        HexCabinet many = Check.told(b.toString());
        inOrder(many);
        Check.end();
    }

    private static void inOrder(HexCabinet x) {
        int total = x.count(3);
        int before = -1;
        for (int i = 0; i < total; i++) {
            int move = x.nth(i);
            Check.dueTrue("rising at " + i, move > before);
            Check.dueTrue("legal at " + i, x.legal(move / 91, move % 91));
            before = move;
        }
        Check.noCell("nth(count(3))", () -> x.nth(total));
    }
}
