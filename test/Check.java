import java.util.function.Consumer;
import java.util.function.Supplier;

/** What the tests share: telling a game to an object, and comparing answers. */
final class Check {
    interface Call {
        void run();
    }

    private static int wrong = 0;

    private Check() {
    }

    static void due(String call, long got, long want) {
        if (got != want) {
            fail(call + " answered " + got + ", due is " + want);
        }
    }

    static void dueDouble(String call, double got, double want) {
        if (!(got == want)) {
            fail(call + " answered " + got + ", due is " + want);
        }
    }

    static void dueTrue(String call, boolean got) {
        due(call, got ? 1 : 0, 1);
    }

    static void dueFalse(String call, boolean got) {
        due(call, got ? 1 : 0, 0);
    }

    static void thrown(String call, Class<? extends RuntimeException> kind, Call made) {
        try {
            made.run();
            fail(call + " threw nothing, due is " + kind.getSimpleName());
        } catch (RuntimeException e) {
            if (e.getClass() != kind) {
                fail(call + " threw " + e + ", due is " + kind.getSimpleName());
            }
        }
    }

    static void noCell(String call, Call made) {
        thrown(call, IndexOutOfBoundsException.class, made);
    }

    static void noArgument(String call, Call made) {
        thrown(call, IllegalArgumentException.class, made);
    }

    static void noState(String call, Call made) {
        thrown(call, IllegalStateException.class, made);
    }

    static void dueText(String call, String got, String want) {
        if (!got.equals(want)) {
            fail(call + " told " + got + ", due is " + want);
        }
    }

    /** What can be asked of an object without changing it, in few calls. */
    static String seen(HexCabinet x) {
        StringBuilder b = new StringBuilder("counts");
        for (int what = 0; what <= 10; what++) {
            b.append(' ').append(x.count(what));
        }
        b.append(" errorAt ").append(x.errorAt()).append(" lines ").append(x.lines(1)).append(' ').append(x.lines(2));
        b.append(" mate ").append(x.mate()).append(" greed ").append(x.greed());
        b.append(" hanging ").append(x.hanging(0)).append(' ').append(x.hanging(1));
        return b.append(" mean ").append(x.mean()).append(" digest ").append(x.digest()).toString();
    }

    /** The two answer alike from here on: what is seen, all moves taken back, and the tape. */
    static void alike(String behind, HexCabinet got, HexCabinet want) {
        dueText("what is seen behind " + behind, seen(got), seen(want));
        int moves = want.count(0);
        for (int i = 0; i < moves && got.count(0) > 0; i++) {
            due("back() behind " + behind, got.back(), want.back());
            due("digest() behind " + behind, got.digest(), want.digest());
        }
        due("teach() behind " + behind, got.teach(), want.teach());
        dueText("what is seen behind teach() behind " + behind, seen(got), seen(want));
    }

    /** A method that throws an exception changes nothing. */
    static void refused(String call, Class<? extends RuntimeException> kind, Supplier<HexCabinet> make,
            Consumer<HexCabinet> made) {
        HexCabinet x = make.get();
        thrown(call, kind, () -> made.accept(x));
        alike(call, x, make.get());
    }

    /** An object with something of all: moves made, a cell in passing, an error, a game on the tape. */
    static HexCabinet busy() {
        HexCabinet x = told("start; go f5 f6; go g10 g9; go g1 g2;");
        due("teach() of the busy one", teach(x, "start; stop;"), 1);
        due("a move of the busy one", go(x, "b7", "b5"), 0);
        feed(x, "put black king f6; turn black;");
        return x;
    }

    /** An object that refuses a call as a new one, and as one with something of all. */
    static void refusedByAll(String call, Class<? extends RuntimeException> kind, Consumer<HexCabinet> made) {
        refused(call + " by a new one", kind, HexCabinet::new, made);
        refused(call + " by a busy one", kind, Check::busy, made);
    }

    /** Quiet moves of the kings, of white on a1 and of black on k6. */
    static String quietMoves(int n) {
        String[] way = {"go a1 a2;", "go k6 k5;", "go a2 a1;", "go k5 k6;"};
        StringBuilder b = new StringBuilder();
        for (int i = 0; i < n; i++) {
            b.append(way[i % 4]);
        }
        return b.toString();
    }

    static String times(String text, int n) {
        StringBuilder b = new StringBuilder();
        for (int i = 0; i < n; i++) {
            b.append(text);
        }
        return b.toString();
    }

    static void fail(String text) {
        wrong++;
        if (wrong <= 100) {
            System.out.println(text);
        }
    }

    /** Feeds a text, blanks behind it, and trims these off. */
    static void feed(HexCabinet x, String text) {
        int before = x.count(10);
        for (int i = 0; i < text.length(); i += 20) {
            x.feed(four(text, i), four(text, i + 4), four(text, i + 8), four(text, i + 12), four(text, i + 16));
        }
        x.trim(before + text.length());
    }

    static int four(String text, int from) {
        int number = 0;
        for (int i = from; i < from + 4; i++) {
            number = number << 8 | (i < text.length() ? text.charAt(i) & 255 : ' ');
        }
        return number;
    }

    static int teach(HexCabinet x, String text) {
        feed(x, text);
        return x.teach();
    }

    /** A new object that was told a game without an error. */
    static HexCabinet told(String text) {
        HexCabinet x = new HexCabinet();
        due("teach() of " + text, teach(x, text), 0);
        return x;
    }

    static void error(String text, int error, int position) {
        HexCabinet x = new HexCabinet();
        due("teach() of " + text, teach(x, text), error);
        due("errorAt() behind " + text, x.errorAt(), position);
    }

    /** The cell of a name such as f11. */
    static int cell(String name) {
        return new HexCabinet().at(name.charAt(0) - 'a', Integer.parseInt(name.substring(1)));
    }

    /** The number of the move between two cells. */
    static int move(String from, String to) {
        return 91 * cell(from) + cell(to);
    }

    static int go(HexCabinet x, String from, String to) {
        return x.move(cell(from), cell(to), 2);
    }

    static void end() {
        System.out.println(wrong == 0 ? "all answers are as due" : wrong + " answers are not as due");
        if (wrong != 0) {
            System.exit(1);
        }
    }
}
