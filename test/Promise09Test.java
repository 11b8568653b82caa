/** Promise 9: name tells the name of a cell. */
public final class Promise09Test {
    public static void main(String[] args) {
        HexCabinet x = new HexCabinet();
        int[] sizes = {6, 7, 8, 9, 10, 11, 10, 9, 8, 7, 6};
        int cell = 0;
        for (int column = 0; column < 11; column++) {
            for (int number = 1; number <= sizes[column]; number++) {
                Check.due("name(" + cell + ")", x.name(cell), 100 * column + number);
                cell++;
            }
        }
        int[] wrong = {-1, 91, Integer.MIN_VALUE, Integer.MAX_VALUE};
        for (int w : wrong) {
            Check.noCell("name(" + w + ")", () -> x.name(w));
        }
        Check.end();
    }
}
