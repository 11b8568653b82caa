/** Promise 3: trim shortens the tape to its first bytes. */
public final class Promise03Test {
    public static void main(String[] args) {
        HexCabinet x = new HexCabinet();
        Check.due("trim(0)", x.trim(0), 0);
        Check.noArgument("trim(1)", () -> x.trim(1));
        Check.noArgument("trim(-1)", () -> x.trim(-1));
        x.feed(1, 2, 3, 4, 5);
        Check.noArgument("trim(21)", () -> x.trim(21));
        Check.noArgument("trim(-1)", () -> x.trim(-1));
        Check.noArgument("trim of the least number", () -> x.trim(Integer.MIN_VALUE));
        Check.noArgument("trim of the greatest number", () -> x.trim(Integer.MAX_VALUE));
        Check.due("count(10)", x.count(10), 20);
        Check.due("trim(20)", x.trim(20), 20);
        Check.due("trim(7)", x.trim(7), 7);
        Check.due("count(10)", x.count(10), 7);
        Check.noArgument("trim(8)", () -> x.trim(8));
        Check.due("trim(0)", x.trim(0), 0);
        Check.due("count(10)", x.count(10), 0);

        Check.feed(x, "turn black; rubbish");
        x.trim(11);
        Check.due("teach()", x.teach(), 0);
        Check.due("count(1)", x.count(1), 1);
        Check.end();
    }
}
