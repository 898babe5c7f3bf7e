/** Promises 1, 2 and 3, and what 4 and 10 do to the tape. */
public final class TapeTest {
    private static final String SMALL = "module a ( ) ; endmodule";

    public static void main(String[] args) {
        newObject();
        feeding();
        fullTape();
        ending();
        emptied();
        Bench.done("TapeTest");
    }

    private static void newObject() {
        CircuitText x = new CircuitText();
        Bench.due("NONE", CircuitText.NONE, -1);
        Bench.due("new fault()", x.fault(), 0);
        Bench.due("new count()", x.count(), 0);
        Bench.due("new module(0, 0)", Bench.module(x, 0, 0), Bench.INDEX);
        Bench.due("new declared(0, 0, 0)", Bench.declared(x, 0, 0, 0), Bench.INDEX);
        Bench.due("new beginning(0, 0)", Bench.beginning(x, 0, 0), Bench.INDEX);
        Bench.due("new find(0)", Bench.find(x, 0, ""), Bench.INDEX);
        Bench.due("new end(1)", Bench.end(x, 1), Bench.ARGUMENT);
        Bench.due("new end(0)", Bench.end(x, 0), 0);
        Bench.due("new read()", x.read(), 0);
        Bench.due("fault() of the empty tape", x.fault(), 2);
    }

    private static void feeding() {
        CircuitText x = new CircuitText();
        // the highest byte of each number first: "modu" "le a" "( );" " end" "modu", then "le" and a rest
        Bench.due("feed", x.feed(0x6d6f6475, 0x6c652061, 0x28202920, 0x3b20656e, 0x646d6f64), 20);
        Bench.due("feed", x.feed(0x756c6520, 0xffffffff, 0x80000000, 0, -1), 40);
        Bench.due("end", Bench.end(x, 23), 0);
        Bench.due("read()", x.read(), CircuitText.NONE);
        Bench.due("place", Bench.module(x, 0, 7), 7);
        Bench.due("feed after read()", x.feed(0x6d6f6475, 0x6c652061, 0x28202920, 0x3b20656e, 0x646d6f64), 20);
        Bench.due("feed", x.feed(0x756c6520, 0xffffffff, 0x80000000, 0, -1), 40);
        Bench.due("read() with a byte 255", x.read(), 24);
        Bench.due("fault()", x.fault(), 1);
    }

    private static void fullTape() {
        CircuitText x = new CircuitText();
        Bench.put(x, "module a ( ) ; /*");
        int has = Bench.feed(x, 0, 0, 0, 0, 0);
        Bench.due("feed behind end()", has, 37);
        Bench.due("end(16)", Bench.end(x, 16), 0);
        for (int i = 0; i < 3276; i++) {
            has = Bench.feed(x, 0x20202020, 0x20202020, 0x20202020, 0x20202020, 0x20202020);
            if (has != 16 + 20 * (i + 1)) {
                Bench.due("feed number " + i, has, 16 + 20 * (i + 1));
            }
        }
        Bench.due("the last feed", has, 65536);
        Bench.due("a feed too many", Bench.feed(x, 1, 2, 3, 4, 5), Bench.UNSUPPORTED);
        Bench.due("end(65537)", Bench.end(x, 65537), Bench.ARGUMENT);
        Bench.due("end(65517)", Bench.end(x, 65517), 0);
        Bench.due("a feed that is one byte too long", Bench.feed(x, 1, 2, 3, 4, 5), Bench.UNSUPPORTED);
        Bench.due("end(65516)", Bench.end(x, 65516), 0);
        Bench.due("feed", Bench.feed(x, 0x20202020, 0x20202020, 0x20202020, 0x20202020, 0x20202020), 65536);
        Bench.due("read() of the full tape", x.read(), 15);
        Bench.due("fault() of the full tape", x.fault(), 1);
    }

    private static void ending() {
        CircuitText x = new CircuitText();
        Bench.put(x, SMALL + SMALL);
        Bench.due("end(-1)", Bench.end(x, -1), Bench.ARGUMENT);
        Bench.due("end(least)", Bench.end(x, Integer.MIN_VALUE), Bench.ARGUMENT);
        Bench.due("end(length + 1)", Bench.end(x, 2 * SMALL.length() + 1), Bench.ARGUMENT);
        Bench.due("end(greatest)", Bench.end(x, Integer.MAX_VALUE), Bench.ARGUMENT);
        Bench.due("end(length)", Bench.end(x, 2 * SMALL.length()), 0);
        Bench.due("end(half)", Bench.end(x, SMALL.length()), 0);
        Bench.due("end(more than is left)", Bench.end(x, SMALL.length() + 1), Bench.ARGUMENT);
        Bench.due("read()", x.read(), CircuitText.NONE);
        Bench.due("end(1) of the tape that was read", Bench.end(x, 1), Bench.ARGUMENT);
        Bench.put(x, SMALL);
        Bench.due("end(0)", Bench.end(x, 0), 0);
        Bench.due("read() of nothing", x.read(), 0);
        Bench.due("fault()", x.fault(), 2);
        Bench.due("count()", x.count(), 1);
    }

    private static void emptied() {
        CircuitText x = new CircuitText();
        Bench.put(x, "module a ( input b ) ; endmodule");
        Bench.due("find(0) without modules", Bench.find(x, 0, ""), Bench.INDEX);
        Bench.due("a find() that throws keeps the tape", x.read(), CircuitText.NONE);
        Bench.put(x, "b");
        Bench.due("find(1)", Bench.find(x, 1, ""), Bench.INDEX);
        Bench.due("find(0) of the tape that was kept", Bench.find(x, 0, ""), 0);
        Bench.due("find(0) of the empty tape", Bench.find(x, 0, ""), CircuitText.NONE);
        Bench.put(x, "nothing of a circuit");
        Bench.due("read() with a fault", x.read(), 0);
        Bench.due("a read() with a fault empties, too", Bench.end(x, 1), Bench.ARGUMENT);
    }
}
