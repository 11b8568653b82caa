/** Promise 4: teach reads the tape as a game, in the place of all that was there, or all stays. */
public final class Promise04Test {
    public static void main(String[] args) {
        HexCabinet x = Check.told("start; go f5 f6;");
        Check.due("count(0)", x.count(0), 1);
        Check.due("count(10)", x.count(10), 0);

        // With an error all stays, but the tape is empty.
        long before = x.digest();
        Check.due("teach()", Check.teach(x, "put white king a1; turn black; go a1 a2;"), 4);
        Check.due("digest()", x.digest(), before);
        Check.due("count(10)", x.count(10), 0);
        Check.due("teach()", Check.teach(x, "start"), 1);
        Check.due("digest()", x.digest(), before);
        Check.due("back()", x.back(), 0);

        // An empty tape is a game with an empty board.
        Check.due("teach()", x.teach(), 0);
        Check.due("count(4)", x.count(4), 0);
        Check.due("count(1)", x.count(1), 0);
        Check.due("teach() of blanks", Check.teach(x, " \n \n"), 0);

        lines();
        tokens();
        anew();
        numberOfTokens();
        Check.end();
    }

    private static void lines() {
        HexCabinet x = Check.told("put white king a1; put black queen k6; turn black;");
        Check.due("a1", x.cell(Check.cell("a1"), 0), 1);
        Check.due("a1", x.cell(Check.cell("a1"), 1), 0);
        Check.due("k6", x.cell(Check.cell("k6"), 0), 2);
        Check.due("k6", x.cell(Check.cell("k6"), 1), 1);
        Check.due("count(1)", x.count(1), 1);

        // The set-up, in the place of all that was there, with white on turn.
        HexCabinet s = Check.told("put white king f6; turn black; start;");
        Check.due("f6", s.cell(Check.cell("f6"), 0), 0);
        Check.due("count(1)", s.count(1), 0);
        String[] white = {"g1", "e1", "c1", "i1", "f1", "f2", "f3", "d1", "h1"};
        String[] black = {"g10", "e10", "c8", "i8", "f11", "f10", "f9", "d9", "h9"};
        int[] piece = {1, 2, 3, 3, 4, 4, 4, 5, 5};
        for (int i = 0; i < piece.length; i++) {
            Check.due(white[i], s.cell(Check.cell(white[i]), 0), piece[i]);
            Check.due(white[i], s.cell(Check.cell(white[i]), 1), 0);
            Check.due(black[i], s.cell(Check.cell(black[i]), 0), piece[i]);
            Check.due(black[i], s.cell(Check.cell(black[i]), 1), 1);
        }
        String[] whitePawns = {"b1", "c2", "d3", "e4", "f5", "g4", "h3", "i2", "j1"};
        String[] blackPawns = {"b7", "c7", "d7", "e7", "f7", "g7", "h7", "i7", "j7"};
        for (int i = 0; i < 9; i++) {
            Check.due(whitePawns[i], s.cell(Check.cell(whitePawns[i]), 0), 6);
            Check.due(whitePawns[i], s.cell(Check.cell(whitePawns[i]), 1), 0);
            Check.due(blackPawns[i], s.cell(Check.cell(blackPawns[i]), 0), 6);
            Check.due(blackPawns[i], s.cell(Check.cell(blackPawns[i]), 1), 1);
        }
        int pieces = 0;
        for (int cell = 0; cell < 91; cell++) {
            pieces += s.cell(cell, 0) == 0 ? 0 : 1;
        }
        Check.due("pieces", pieces, 36);

        // go with as, and without it: a queen.
        String kings = "put white king a1; put black king k6; put white pawn e9;";
        HexCabinet q = Check.told(kings + "go e9 e10;");
        Check.due("e10", q.cell(Check.cell("e10"), 0), 2);
        HexCabinet n = Check.told(kings + "go e9 e10 as knight;");
        Check.due("e10", n.cell(Check.cell("e10"), 0), 5);
        Check.due("e10", n.cell(Check.cell("e10"), 1), 0);
        Check.due("count(1)", n.count(1), 1);
    }

    private static void tokens() {
        Check.told("start;turn\nblack;");
        Check.told("\n\n  start  \n ;   turn white;\n");
        Check.error("startt;", 1, 0);
        Check.error("start ;turnwhite;", 1, 7);
        Check.error("putwhite king a1;", 1, 0);
        Check.error("Start;", 1, 0);
        Check.error("start;\t", 1, 6);
        Check.error("start;\r\n", 1, 6);
        Check.error("start,", 1, 5);
        Check.error("start;1", 1, 6);
        // A word of ten bytes is a name (of no cell), one of eleven is too long.
        Check.error("put white king abcdefghi1;", 2, 15);
        Check.error("put white king abcdefghi12;", 1, 15);
        Check.error("put white king a000000001;", 2, 15);
        Check.error("put white king a0000000001;", 1, 15);
    }

    /** Behind start, put and turn no move is taken back, no pawn taken in passing, and none was quiet. */
    private static void anew() {
        String[] behind = {"start;", "put black rook a1;", "turn white;"};
        for (String line : behind) {
            HexCabinet x = Check.told("start; go g1 g2; go b7 b5;" + line);
            Check.due("count(0) behind " + line, x.count(0), 0);
            Check.due("count(6) behind " + line, x.count(6), 0);
            Check.due("count(9) behind " + line, x.count(9), -1);
            Check.noState("back() behind " + line, x::back);
            HexCabinet q = Check.told("start; go g1 g2; go g10 g9;" + line);
            Check.due("count(6) behind " + line, q.count(6), 0);
        }
        HexCabinet x = Check.told("start; go g1 g2; go g10 g9;");
        Check.due("count(6)", x.count(6), 2);
    }

    private static void numberOfTokens() {
        StringBuilder b = new StringBuilder();
        for (int i = 0; i < 200; i++) {
            b.append("start;");
        }
        String full = b.toString();
        Check.told(full);
        Check.told(full + " \n ");
        Check.error(full + " start;", 1, 1201);
        Check.error(full + ";", 1, 1200);
        Check.error(full + "?", 1, 1200);
        // The end of the tape is not counted, so that it is the error here.
        String open = full.substring(6) + "turn white";
        Check.error(open, 1, open.length());
        Check.error(open + " ", 1, open.length() + 1);
        Check.error(open + " ;", 1, open.length() + 1);
        // The end of the tape can stand at 2000 as well.
        b.append("                    ".repeat(40));
        HexCabinet x = new HexCabinet();
        Check.feed(x, b.toString());
        Check.due("count(10)", x.count(10), 2000);
        Check.due("teach()", x.teach(), 0);
    }
}
