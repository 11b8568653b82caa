/** Promise 1, at its boundaries: a new object. */
public final class Promise01EdgesTest {
    public static void main(String[] args) {
        emptyBoard();
        emptyRows();
        whiteOnTurn();
        refusedCalls();
        Check.end();
    }

    /** "Creates an empty board": it is the one that an empty tape tells. */
    private static void emptyBoard() {
        HexCabinet taught = Check.told("");
        Check.alike("new", new HexCabinet(), taught);
        HexCabinet cleared = Check.told("start; go f5 f6;");
        Check.due("teach() of nothing", cleared.teach(), 0);
        Check.alike("new", new HexCabinet(), cleared);
        HexCabinet x = new HexCabinet();
        for (int cell = 0; cell < 91; cell++) {
            Check.due("piece on " + cell, x.cell(cell, 0), 0);
            Check.due("side on " + cell, x.cell(cell, 1), -1);
        }
    }

    /** "The tape is a row of at most 2000 bytes, at first empty"; no move is there, and none can be taken back. */
    private static void emptyRows() {
        HexCabinet x = new HexCabinet();
        Check.due("count(10)", x.count(10), 0);
        Check.due("trim(0)", x.trim(0), 0);
        Check.noArgument("trim(1)", () -> x.trim(1));
        Check.due("the first feed", x.feed(0, 0, 0, 0, 0), 20);
        Check.due("count(0)", x.count(0), 0);
        Check.noState("back()", x::back);
        Check.due("count(3)", x.count(3), 0);
        Check.noCell("nth(0)", () -> x.nth(0));
        Check.due("errorAt()", x.errorAt(), -1);
    }

    /** "with white on turn" */
    private static void whiteOnTurn() {
        Check.due("count(1)", new HexCabinet().count(1), 0);
        HexCabinet x = Check.told("put white king a1; put black king k6;");
        Check.due("count(1)", x.count(1), 0);
        Check.dueTrue("a move of white", x.legal(Check.cell("a1"), Check.cell("a2")));
        Check.dueFalse("a move of black", x.legal(Check.cell("k6"), Check.cell("k5")));
    }

    /** "A method that throws an exception changes nothing": a new object stays as a new one. */
    private static void refusedCalls() {
        HexCabinet x = new HexCabinet();
        Check.noArgument("trim(1)", () -> x.trim(1));
        Check.noCell("count(11)", () -> x.count(11));
        Check.noCell("cell(91, 0)", () -> x.cell(91, 0));
        Check.noCell("at(0, 7)", () -> x.at(0, 7));
        Check.noCell("name(-1)", () -> x.name(-1));
        Check.noArgument("far(6, 0, 0)", () -> x.far(6, 0, 0));
        Check.noCell("legal(0, 91)", () -> x.legal(0, 91));
        Check.noCell("nth(0)", () -> x.nth(0));
        Check.noState("move(0, 1, 2)", () -> x.move(0, 1, 2));
        Check.noState("back()", x::back);
        Check.noArgument("lines(3)", () -> x.lines(3));
        Check.noCell("hanging(2)", () -> x.hanging(2));
        Check.alike("what is refused", x, new HexCabinet());
    }
}
