/** Promise 1: a new object is an empty board with white on turn. */
public final class Promise01Test {
    public static void main(String[] args) {
        HexCabinet x = new HexCabinet();
        int[] due = {0, 0, 5, 0, 0, 0, 0, 0, 0, -1, 0};
        for (int what = 0; what < due.length; what++) {
            Check.due("count(" + what + ")", x.count(what), due[what]);
        }
        for (int cell = 0; cell < 91; cell++) {
            Check.due("cell(" + cell + ", 0)", x.cell(cell, 0), 0);
            Check.due("cell(" + cell + ", 1)", x.cell(cell, 1), -1);
            Check.due("cell(" + cell + ", 3)", x.cell(cell, 3), 0);
            Check.due("cell(" + cell + ", 4)", x.cell(cell, 4), 0);
            Check.due("cell(" + cell + ", 5)", x.cell(cell, 5), 0);
        }
        Check.due("errorAt()", x.errorAt(), -1);
        Check.due("mate()", x.mate(), -1);
        Check.due("greed()", x.greed(), -1);
        Check.dueDouble("mean()", x.mean(), 0.0);
        Check.noState("back()", x::back);
        Check.noCell("nth(0)", () -> x.nth(0));

        // Objects share nothing.
        HexCabinet other = Check.told("start;");
        Check.feed(other, "go");
        Check.due("count(10)", x.count(10), 0);
        Check.due("count(4)", x.count(4), 0);
        Check.due("count(4) of the other", other.count(4), 46);
        Check.end();
    }
}
