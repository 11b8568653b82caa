/** Promise 13: move. */
public final class Promise13Test {
    public static void main(String[] args) {
        HexCabinet x = Check.told("start;");
        long before = x.digest();
        int[] wrong = {-1, 91, Integer.MIN_VALUE, Integer.MAX_VALUE};
        for (int w : wrong) {
            Check.noCell("move(" + w + ", 7, 2)", () -> x.move(w, 7, 2));
            Check.noCell("move(6, " + w + ", 2)", () -> x.move(6, w, 2));
            Check.noCell("move(6, " + w + ", 1)", () -> x.move(6, w, 1));
            Check.noArgument("move(6, 7, " + w + ")", () -> x.move(6, 7, w));
            Check.noArgument("move(0, 0, " + w + ")", () -> x.move(0, 0, w));
        }
        int[] as = {0, 1, 6};
        for (int a : as) {
            Check.noArgument("move(6, 7, " + a + ")", () -> x.move(6, 7, a));
        }
        Check.noState("move(6, 9, 2)", () -> x.move(6, 9, 2));
        Check.noState("move(12, 11, 2)", () -> x.move(12, 11, 2));
        Check.due("digest()", x.digest(), before);
        for (int a = 2; a <= 5; a++) {
            Check.due("move(6, 7, " + a + ")", x.move(6, 7, a), 0);
            Check.due("piece", x.cell(7, 0), 6);
            Check.due("count(1)", x.count(1), 1);
            x.back();
        }

        taking();
        becoming();
        Check.end();
    }

    private static void taking() {
        String[] piece = {"queen", "rook", "bishop", "knight", "pawn"};
        for (int i = 0; i < piece.length; i++) {
            HexCabinet x = Check.told("put white king a2; put black king k5; put white rook f1; put black "
                    + piece[i] + " f6;");
            Check.due("taken " + piece[i], Check.go(x, "f1", "f6"), i + 2);
            Check.due("f6", x.cell(Check.cell("f6"), 0), 3);
            Check.due("f6", x.cell(Check.cell("f6"), 1), 0);
            Check.due("f1", x.cell(Check.cell("f1"), 0), 0);
            Check.due("count(5)", x.count(5), 0);
        }
        // In passing, by white and by black.
        HexCabinet w = Check.told("put white king a2; put black king k5; put white pawn f6; put black pawn g7;"
                + "turn black; go g7 g5;");
        Check.due("taken", Check.go(w, "f6", "g6"), 6);
        Check.due("g5", w.cell(Check.cell("g5"), 0), 0);
        Check.due("g6", w.cell(Check.cell("g6"), 1), 0);
        Check.due("f6", w.cell(Check.cell("f6"), 0), 0);
        HexCabinet b = Check.told("put white king a2; put black king k5; put black pawn f6; put white pawn e4;"
                + "go e4 e6;");
        Check.due("count(9)", b.count(9), Check.cell("e5"));
        Check.due("taken", Check.go(b, "f6", "e5"), 6);
        Check.due("e6", b.cell(Check.cell("e6"), 0), 0);
        Check.due("e5", b.cell(Check.cell("e5"), 1), 1);
        Check.due("count(4)", b.count(4), 0);
    }

    private static void becoming() {
        String[] white = {"a6", "b7", "c8", "d9", "e10", "f11", "g10", "h9", "i8", "j7", "k6"};
        String[] black = {"a1", "b1", "c1", "d1", "e1", "f1", "g1", "h1", "i1", "j1", "k1"};
        for (int i = 0; i < 11; i++) {
            for (int as = 2; as <= 5; as++) {
                // The other pieces stand where they do not matter.
                HexCabinet x = Check.told("put white king e5; put black king h4; put white pawn " + below(white[i], -1)
                        + "; put black pawn " + below(black[i], 1) + ";");
                Check.due("becoming", x.move(Check.cell(below(white[i], -1)), Check.cell(white[i]), as), 0);
                Check.due(white[i], x.cell(Check.cell(white[i]), 0), as);
                Check.due(white[i], x.cell(Check.cell(white[i]), 1), 0);
                Check.due("count(6)", x.count(6), 0);
                if (x.legal(Check.cell(below(black[i], 1)), Check.cell(black[i]))) {
                    x.move(Check.cell(below(black[i], 1)), Check.cell(black[i]), as);
                    Check.due(black[i], x.cell(Check.cell(black[i]), 0), as);
                    Check.due(black[i], x.cell(Check.cell(black[i]), 1), 1);
                }
            }
        }
        // By taking, and along the border from a last cell.
        HexCabinet t = Check.told("put white king a2; put black king k4; put white pawn e9; put black rook d9;");
        Check.due("taken", t.move(Check.cell("e9"), Check.cell("d9"), 5), 3);
        Check.due("d9", t.cell(Check.cell("d9"), 0), 5);
        HexCabinet b = Check.told("put white king a2; put black king k4; put white pawn d9; put black rook e10;");
        Check.due("taken", b.move(Check.cell("d9"), Check.cell("e10"), 4), 3);
        Check.due("e10", b.cell(Check.cell("e10"), 0), 4);
    }

    private static String below(String name, int by) {
        return name.charAt(0) + "" + (Integer.parseInt(name.substring(1)) + by);
    }
}
