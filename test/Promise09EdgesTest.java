/** Promise 9, at its boundaries: name. */
public final class Promise09EdgesTest {
    public static void main(String[] args) {
        noSuchCell();
        endsOfColumns();
        Check.end();
    }

    /** "Throws IndexOutOfBoundsException if there is no such cell" */
    private static void noSuchCell() {
        HexCabinet x = Check.told("start;");
        Check.due("name(0)", x.name(0), 1);
        Check.due("name(90)", x.name(90), 1006);
        int[] wrong = {-1, -2, -91, 91, 92, 100, 256, 289, Integer.MIN_VALUE, Integer.MIN_VALUE + 45, Integer.MAX_VALUE};
        for (int cell : wrong) {
            Check.noCell("name(" + cell + ")", () -> x.name(cell));
            Check.refusedByAll("name(" + cell + ")", IndexOutOfBoundsException.class, y -> y.name(cell));
        }
    }

    /** "100 times its column, and its number, added": the first and the last cell of each column. */
    private static void endsOfColumns() {
        HexCabinet x = new HexCabinet();
        int[] sizes = {6, 7, 8, 9, 10, 11, 10, 9, 8, 7, 6};
        int cell = 0;
        for (int column = 0; column < 11; column++) {
            Check.due("name(" + cell + ")", x.name(cell), 100 * column + 1);
            cell += sizes[column] - 1;
            Check.due("name(" + cell + ")", x.name(cell), 100 * column + sizes[column]);
            cell++;
        }
    }
}
