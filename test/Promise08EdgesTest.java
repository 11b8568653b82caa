/** Promise 8, at its boundaries: at. */
public final class Promise08EdgesTest {
    private static final int[] SIZES = {6, 7, 8, 9, 10, 11, 10, 9, 8, 7, 6};

    public static void main(String[] args) {
        columns();
        numbers();
        farAway();
        places();
        Check.end();
    }

    private static void none(int column, int number) {
        HexCabinet x = new HexCabinet();
        Check.noCell("at(" + column + ", " + number + ")", () -> x.at(column, number));
    }

    /** "a column, 0 to 10", "Throws IndexOutOfBoundsException if there is none" */
    private static void columns() {
        HexCabinet x = new HexCabinet();
        Check.due("at(0, 1)", x.at(0, 1), 0);
        Check.due("at(10, 1)", x.at(10, 1), 85);
        for (int number = 0; number <= 12; number++) {
            none(-1, number);
            none(11, number);
        }
        Check.refusedByAll("at(-1, 1)", IndexOutOfBoundsException.class, y -> y.at(-1, 1));
        Check.refusedByAll("at(11, 1)", IndexOutOfBoundsException.class, y -> y.at(11, 1));
    }

    /** "There are 91 cells, in columns a to k of 6, 7, 8, 9, 10, 11, 10, 9, 8, 7 and 6 cells, counted ... from 1 on" */
    private static void numbers() {
        HexCabinet x = new HexCabinet();
        int first = 0;
        for (int column = 0; column < 11; column++) {
            int c = column;
            int size = SIZES[column];
            Check.due("the first of column " + c, x.at(c, 1), first);
            Check.due("the last of column " + c, x.at(c, size), first + size - 1);
            none(c, 0);
            none(c, -1);
            none(c, size + 1);
            none(c, size + 2);
            Check.refusedByAll("at(" + c + ", 0)", IndexOutOfBoundsException.class, y -> y.at(c, 0));
            Check.refusedByAll("at(" + c + ", " + (size + 1) + ")", IndexOutOfBoundsException.class,
                    y -> y.at(c, size + 1));
            first += size;
        }
        Check.due("cells", first, 91);
    }

    /** The same, far out, where a sum or a product could wrap around. */
    private static void farAway() {
        int[] far = {Integer.MIN_VALUE, Integer.MIN_VALUE + 1, Integer.MIN_VALUE + 6, Integer.MAX_VALUE,
            Integer.MAX_VALUE - 5, 65536, 65537, 256, 257, -256, 1 << 30, 100, 1000};
        for (int a : far) {
            for (int b = 0; b <= 11; b++) {
                none(a, b);
                none(b, a);
            }
            for (int b : far) {
                none(a, b);
            }
        }
    }

    /** "the cell of the column c with the number n": the tape calls it so, and name() does. */
    private static void places() {
        for (int column = 0; column < 11; column++) {
            for (int number = 1; number <= SIZES[column]; number++) {
                HexCabinet x = Check.told("put black knight " + (char) ('a' + column) + number + ";");
                int cell = x.at(column, number);
                Check.due("piece there", x.cell(cell, 0), 5);
                Check.due("its name", x.name(cell), 100 * column + number);
            }
        }
    }
}
