/** The boundary cases of promises 1, 2 and 3, and of "What it is"; each method's comment is the sentence it looks at. */
public final class TapeEdgeTest {
    private static final int TAPE_MOST = 65536;
    private static final int BLANKS = 0x20202020;
    private static final String SMALL = "module a ( ) ; endmodule";

    public static void main(String[] args) {
        emptyAtFirst();
        noModulesAtFirst();
        objectsApart();
        highestFirst();
        twentyBytesAnyValue();
        howManyItHas();
        rowGrows();
        atMost65536();
        keepsItsFirstBytes();
        endAtItsEdges();
        whatIsGoneStaysGone();
        calls512();
        Bench.done("TapeEdgeTest");
    }

    /** "An empty tape": nothing can be kept of it, and it is read as a text without a token. */
    private static void emptyAtFirst() {
        CircuitText x = new CircuitText();
        Bench.due("end(1) of a new object", Bench.end(x, 1), Bench.ARGUMENT);
        Bench.due("end(0) of a new object", Bench.end(x, 0), 0);
        Bench.due("first feed", Bench.feed(x, 0, 0, 0, 0, 0), 20);
        CircuitText y = new CircuitText();
        Bench.due("read() of a new object", y.read(), 0);
        Bench.due("fault() of the empty tape", y.fault(), 2);
    }

    /** "no modules": all that asks for one throws, whatever else is wrong. */
    private static void noModulesAtFirst() {
        CircuitText x = new CircuitText();
        Bench.due("count()", x.count(), 0);
        Bench.due("fault()", x.fault(), 0);
        for (int m = -1; m <= 1; m++) {
            Bench.due("find(" + m + ")", Bench.find(x, m, ""), Bench.INDEX);
            for (int what = -1; what <= 8; what++) {
                Bench.due("module(" + m + ", " + what + ")", Bench.module(x, m, what), Bench.INDEX);
                Bench.due("declared(" + m + ", 0, " + what + ")", Bench.declared(x, m, 0, what), Bench.INDEX);
            }
            Bench.due("beginning(" + m + ", 0)", Bench.beginning(x, m, 0), Bench.INDEX);
        }
    }

    /** A new object has nothing of what another one has. */
    private static void objectsApart() {
        CircuitText x = Bench.right("module a ( input b ) ; endmodule");
        Bench.put(x, "b");
        CircuitText y = new CircuitText();
        Bench.due("count() of another", y.count(), 0);
        Bench.due("end(1) of another", Bench.end(y, 1), Bench.ARGUMENT);
        Bench.due("read() of another", y.read(), 0);
        Bench.due("fault() of the first", x.fault(), 0);
        Bench.due("find(0) of the first", Bench.find(x, 0, ""), 0);
    }

    /** "Twenty bytes more of the tape, the highest of each number first". */
    private static void highestFirst() {
        CircuitText x = Bench.right("module a ( input abcdefghijklmnopqrst , input dcbahgfelkjiponmtsrq ) ; endmodule");
        x.feed(0x61626364, 0x65666768, 0x696a6b6c, 0x6d6e6f70, 0x71727374);
        Bench.due("find(0)", Bench.find(x, 0, ""), 0);
        x.feed(0x64636261, 0x68676665, 0x6c6b6a69, 0x706f6e6d, 0x74737271);
        Bench.due("find(0)", Bench.find(x, 0, ""), 1);
        x.feed(0x71727374, 0x6d6e6f70, 0x696a6b6c, 0x65666768, 0x61626364);
        Bench.due("find(0) of the numbers in another order", Bench.find(x, 0, ""), CircuitText.NONE);
    }

    /** Each of the twenty bytes has its place, also one with its highest bit set, which no other byte feels. */
    private static void twentyBytesAnyValue() {
        for (int place = 0; place < 20; place++) {
            for (int value : new int[] {0, 1, 0x7f, 0x80, 0xff}) {
                int[] numbers = {BLANKS, BLANKS, BLANKS, BLANKS, BLANKS};
                int shift = 24 - 8 * (place % 4);
                numbers[place / 4] = BLANKS & ~(255 << shift) | value << shift;
                CircuitText x = new CircuitText();
                x.feed(numbers[0], numbers[1], numbers[2], numbers[3], numbers[4]);
                Bench.due("read() with " + value + " at " + place, x.read(), place);
                Bench.due("fault() with " + value + " at " + place, x.fault(), 1);
            }
        }
    }

    /** "how many it has". */
    private static void howManyItHas() {
        for (int kept = 0; kept <= 40; kept++) {
            CircuitText x = new CircuitText();
            Bench.due("feed", x.feed(0, 0, 0, 0, 0), 20);
            Bench.due("feed", x.feed(-1, -1, -1, -1, -1), 40);
            x.end(kept);
            Bench.due("feed behind end(" + kept + ")", x.feed(0, 0, 0, 0, 0), kept + 20);
        }
    }

    /** However long the tape is, and wherever a feed begins, all that was fed is on it. */
    private static void rowGrows() {
        String name = "Q".repeat(60);
        for (int around : new int[] {512, 1024, 2048, 4096, 8192}) {
            for (int blanks = around - 50; blanks < around; blanks++) {
                CircuitText x = new CircuitText();
                Bench.put(x, " ".repeat(blanks % 20 + 1));
                Bench.put(x, " ".repeat(blanks - blanks % 20 - 1) + "module " + name + " ( ) ; endmodule");
                Bench.due("read() behind " + blanks + " blanks", x.read(), CircuitText.NONE);
                Bench.due("place behind " + blanks + " blanks", Bench.module(x, 0, 7), blanks + 7);
            }
        }
    }

    /** "at most 65536 bytes"; "UnsupportedOperationException: they would be more". No 512 calls fill it: the limit is kept behind them. */
    private static void atMost65536() {
        for (int bytes = TAPE_MOST - 22; bytes <= TAPE_MOST; bytes++) {
            CircuitText x = new CircuitText();
            Bench.fill(x, bytes);
            boolean room = bytes + 20 <= TAPE_MOST;
            Bench.due("end(" + (bytes + 1) + ")", Bench.end(x, bytes + 1), Bench.ARGUMENT);
            Bench.due("feed behind " + bytes, Bench.feed(x, 0, 0, 0, 0, 0), room ? bytes + 20 : Bench.UNSUPPORTED);
            Bench.due("feed once more", Bench.feed(x, 0, 0, 0, 0, 0), Bench.UNSUPPORTED);
            Bench.due("read() of " + bytes, x.read(), bytes);
            Bench.due("fault()", x.fault(), room ? 1 : 2);
            Bench.due("feed of the tape that was read", Bench.feed(x, 0, 0, 0, 0, 0), 20);
        }
        fullOfTokens();
    }

    /** A full tape on which almost every byte is a token is read to its last one. */
    private static void fullOfTokens() {
        String head = "module a();assert(";
        String tail = "1'd0);endmodule";
        String text = head + "~".repeat(TAPE_MOST - head.length() - tail.length()) + tail;
        for (String last : new String[] {"e", "f"}) {
            CircuitText x = new CircuitText();
            String all = text.substring(0, TAPE_MOST - 1) + last;
            Bench.put(x, all.substring(0, TAPE_MOST % 20));
            Bench.put(x, all.substring(TAPE_MOST % 20));
            Bench.due("a feed too many", Bench.feed(x, 0, 0, 0, 0, 0), Bench.UNSUPPORTED);
            Bench.due("read() of a full tape", x.read(), last.equals("e") ? CircuitText.NONE : TAPE_MOST);
            Bench.due("fault() of a full tape", x.fault(), last.equals("e") ? 0 : 2);
        }
    }

    /** "The tape keeps its first n bytes." */
    private static void keepsItsFirstBytes() {
        CircuitText x = Bench.right("module a ( input a , input ab , input abc , input abcd , input abcde ) ; endmodule");
        for (int n = 0; n <= 6; n++) {
            Bench.put(x, "abcdef");
            x.end(n);
            Bench.due("find(0) behind end(" + n + ")", Bench.find(x, 0, ""), n >= 1 && n <= 5 ? n - 1 : CircuitText.NONE);
        }
    }

    /** "IllegalArgumentException: n is below 0, or it has not so many." */
    private static void endAtItsEdges() {
        for (int has : new int[] {0, 1, 2, 19, 20, 21, 40, 512}) {
            CircuitText x = new CircuitText();
            Bench.put(x, " ".repeat(has));
            for (int n : new int[] {-1, -2, -has - 1, Integer.MIN_VALUE, has + 1, has + 2, 65536, Integer.MAX_VALUE}) {
                Bench.due("end(" + n + ") of " + has, Bench.end(x, n), Bench.ARGUMENT);
            }
            Bench.due("end(" + has + ") of as many", Bench.end(x, has), 0);
            Bench.due("length", Bench.length(x), has);
            if (has > 0) {
                Bench.due("end(" + (has - 1) + ")", Bench.end(x, has - 1), 0);
                Bench.due("end(" + has + ") then", Bench.end(x, has), Bench.ARGUMENT);
                Bench.due("length", Bench.length(x), has - 1);
            }
            Bench.due("end(0)", Bench.end(x, 0), 0);
            Bench.due("end(0) of none", Bench.end(x, 0), 0);
            Bench.due("end(1) of none", Bench.end(x, 1), Bench.ARGUMENT);
        }
    }

    /** What was behind the first n bytes does not come back, neither by a feed nor by a read. */
    private static void whatIsGoneStaysGone() {
        CircuitText x = new CircuitText();
        Bench.put(x, SMALL + " #");
        x.end(SMALL.length());
        Bench.due("read() of what is kept", x.read(), CircuitText.NONE);
        Bench.put(x, "module b ( input c ) ; endmodule # # #");
        x.end(11);
        Bench.put(x, ") ; endmodule");
        Bench.due("read() of what is kept and what is new", x.read(), CircuitText.NONE);
        Bench.due("names", Bench.module(x, 0, 1), 0);
        Bench.put(x, SMALL);
        x.read();
        Bench.due("read() of what was read", x.read(), 0);
        Bench.due("fault()", x.fault(), 2);
    }

    /** An object with one module that has made so many calls; the last of them leaves its tape with one byte, b. */
    private static CircuitText called(int calls) {
        String text = "module a ( output reg b = 1'd1 ) ; endmodule";
        CircuitText x = new CircuitText();
        Bench.put(x, text);
        x.read();
        // three feeds, an end, a read; at the end a feed and an end
        for (int made = 5; made < calls - 2; made++) {
            x.count();
        }
        x.feed(0x62000000, 0, 0, 0, 0);
        x.end(1);
        return x;
    }

    /** "An object is used for at most 512 calls after it has been made": the 512th answers as any other. */
    private static void calls512() {
        for (int before = 510; before <= 511; before++) {
            String nth = "call number " + (before + 1) + ": ";
            Bench.due(nth + "feed", Bench.feed(called(before), 0, 0, 0, 0, 0), 21);
            Bench.due(nth + "end(1)", Bench.end(called(before), 1), 0);
            Bench.due(nth + "end(2)", Bench.end(called(before), 2), Bench.ARGUMENT);
            Bench.due(nth + "read()", called(before).read(), 0);
            Bench.due(nth + "fault()", called(before).fault(), 0);
            Bench.due(nth + "count()", called(before).count(), 1);
            Bench.due(nth + "module(0, 7)", Bench.module(called(before), 0, 7), 7);
            Bench.due(nth + "module(1, 7)", Bench.module(called(before), 1, 7), Bench.INDEX);
            Bench.due(nth + "module(0, 8)", Bench.module(called(before), 0, 8), Bench.ARGUMENT);
            Bench.due(nth + "declared(0, 0, 0)", Bench.declared(called(before), 0, 0, 0), 2);
            Bench.due(nth + "declared(0, 1, 0)", Bench.declared(called(before), 0, 1, 0), Bench.INDEX);
            Bench.due(nth + "declared(0, 0, 4)", Bench.declared(called(before), 0, 0, 4), Bench.ARGUMENT);
            Bench.due(nth + "beginning(0, 0)", Bench.beginning(called(before), 0, 0), 1);
            Bench.due(nth + "beginning(0, 1)", Bench.beginning(called(before), 0, 1), Bench.INDEX);
            Bench.due(nth + "find(0)", Bench.find(called(before), 0, ""), 0);
            Bench.due(nth + "find(1)", Bench.find(called(before), 1, ""), Bench.INDEX);
        }
        CircuitText x = new CircuitText();
        for (int i = 1; i <= 512; i++) {
            Bench.due("feed number " + i, x.feed(BLANKS, BLANKS, BLANKS, BLANKS, BLANKS), 20 * i);
        }
        CircuitText y = new CircuitText();
        for (int i = 1; i <= 512; i++) {
            Bench.due("read() number " + i, y.read(), 0);
        }
        longestText();
    }

    /** As long a text as 512 calls can feed and read: its one NAME is as long as may be. */
    private static void longestText() {
        String tail = " ( ) ; endmodule";
        CircuitText x = new CircuitText();
        Bench.put(x, "module " + "n".repeat(510 * 20 - 7 - tail.length()) + tail);
        Bench.due("read() as call number 512", x.read(), CircuitText.NONE);
        Bench.due("count()", x.count(), 1);
    }
}
