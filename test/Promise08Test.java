/** Promise 8: at tells the cell with a name. */
public final class Promise08Test {
    public static void main(String[] args) {
        HexCabinet x = new HexCabinet();
        int[] sizes = {6, 7, 8, 9, 10, 11, 10, 9, 8, 7, 6};
        int cell = 0;
        for (int column = 0; column < 11; column++) {
            int c = column;
            for (int number = 1; number <= sizes[column]; number++) {
                Check.due("at(" + column + ", " + number + ")", x.at(column, number), cell);
                cell++;
            }
            Check.noCell("at(" + c + ", 0)", () -> x.at(c, 0));
            Check.noCell("at(" + c + ", " + (sizes[c] + 1) + ")", () -> x.at(c, sizes[c] + 1));
            Check.noCell("at(" + c + ", -1)", () -> x.at(c, -1));
        }
        Check.due("cells", cell, 91);
        int[] ends = {-1, 11, Integer.MIN_VALUE, Integer.MAX_VALUE};
        for (int end : ends) {
            Check.noCell("at(" + end + ", 1)", () -> x.at(end, 1));
            Check.noCell("at(5, end)", () -> x.at(5, end == 11 ? 12 : end));
        }
        Check.end();
    }
}
