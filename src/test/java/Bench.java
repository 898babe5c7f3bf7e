/** What the tests share: texts are fed as the document says, and answers are held against those that are due. */
final class Bench {
    /** Stands in a text before the place of its fault, and is taken out of it. */
    static final char MARK = '`';

    /** What a call that throws is told as. */
    static final int INDEX = -101;
    static final int ARGUMENT = -102;
    static final int UNSUPPORTED = -103;
    static final int MACHINE = -104;

    private static int wrong = 0;
    private static int asked = 0;

    private Bench() {
    }

    static void due(String call, long got, long want) {
        asked++;
        if (got != want) {
            wrong++;
            System.out.println(call + " answered " + got + ", due is " + want);
        }
    }

    static void done(String test) {
        System.out.println(test + ": " + asked + " answers, " + wrong + " are not as due");
        if (wrong != 0) {
            System.exit(1);
        }
    }

    /** Puts a text behind what the tape has. */
    static void put(CircuitText x, String text) {
        int before = 0;
        for (int i = 0; i < text.length(); i += 20) {
            int has = x.feed(four(text, i), four(text, i + 4), four(text, i + 8), four(text, i + 12), four(text, i + 16));
            before = has - 20 - i;
        }
        if (!text.isEmpty()) {
            x.end(before + text.length());
        }
    }

    /** Blanks until the tape of an object has so many bytes, twenty at least. It is empty before. */
    static void fill(CircuitText x, int length) {
        for (int i = 0; i < length / 20; i++) {
            x.feed(0x20202020, 0x20202020, 0x20202020, 0x20202020, 0x20202020);
        }
        x.end(length - 20);
        x.feed(0x20202020, 0x20202020, 0x20202020, 0x20202020, 0x20202020);
    }

    private static int four(String text, int from) {
        int value = 0;
        for (int i = from; i < from + 4; i++) {
            value = value << 8 | (i < text.length() ? text.charAt(i) & 255 : '#');
        }
        return value;
    }

    /** The text has no fault; answers the object that has read it. */
    static CircuitText right(String text) {
        CircuitText x = new CircuitText();
        put(x, text);
        due("read() of " + text, x.read(), CircuitText.NONE);
        due("fault() of " + text, x.fault(), 0);
        return x;
    }

    /** The text has this fault where its mark stands. */
    static void faulty(int code, String marked) {
        int place = marked.indexOf(MARK);
        faulty(code, place, marked.substring(0, place) + marked.substring(place + 1));
    }

    /** The same for a text that may hold the mark's own byte. */
    static void faulty(int code, int place, String text) {
        CircuitText x = new CircuitText();
        put(x, text);
        due("read() of " + text, x.read(), place);
        due("fault() of " + text, x.fault(), code);
        due("count() of " + text, x.count(), 0);
    }

    /** The text is right, where code is 0 and its mark is passed over; or it has this fault where its mark stands. */
    static void holds(int code, String marked) {
        if (code == 0) {
            right(marked.replace(String.valueOf(MARK), ""));
        } else {
            faulty(code, marked);
        }
    }

    /** How many bytes the tape has; it has them still. */
    static int length(CircuitText x) {
        int length = x.feed(0, 0, 0, 0, 0) - 20;
        x.end(length);
        return length;
    }

    /** The class itself has thrown it, not the machine or the library for it. */
    private static boolean byHand(RuntimeException thrown, Class<?> due) {
        StackTraceElement[] calls = thrown.getStackTrace();
        return thrown.getClass() == due && calls.length > 0 && calls[0].getClassName().equals("CircuitText");
    }

    static int feed(CircuitText x, int a, int b, int c, int d, int e) {
        try {
            return x.feed(a, b, c, d, e);
        } catch (UnsupportedOperationException thrown) {
            return byHand(thrown, UnsupportedOperationException.class) ? UNSUPPORTED : MACHINE;
        }
    }

    static int end(CircuitText x, int n) {
        try {
            x.end(n);
            return 0;
        } catch (IllegalArgumentException thrown) {
            return byHand(thrown, IllegalArgumentException.class) ? ARGUMENT : MACHINE;
        }
    }

    static int module(CircuitText x, int m, int what) {
        try {
            return x.module(m, what);
        } catch (IndexOutOfBoundsException thrown) {
            return byHand(thrown, IndexOutOfBoundsException.class) ? INDEX : MACHINE;
        } catch (IllegalArgumentException thrown) {
            return byHand(thrown, IllegalArgumentException.class) ? ARGUMENT : MACHINE;
        }
    }

    static int declared(CircuitText x, int m, int k, int what) {
        try {
            return x.declared(m, k, what);
        } catch (IndexOutOfBoundsException thrown) {
            return byHand(thrown, IndexOutOfBoundsException.class) ? INDEX : MACHINE;
        } catch (IllegalArgumentException thrown) {
            return byHand(thrown, IllegalArgumentException.class) ? ARGUMENT : MACHINE;
        }
    }

    static long beginning(CircuitText x, int m, int k) {
        try {
            return x.beginning(m, k);
        } catch (IndexOutOfBoundsException thrown) {
            return byHand(thrown, IndexOutOfBoundsException.class) ? INDEX : MACHINE;
        }
    }

    static int find(CircuitText x, int m, String text) {
        put(x, text);
        try {
            return x.find(m);
        } catch (IndexOutOfBoundsException thrown) {
            return byHand(thrown, IndexOutOfBoundsException.class) ? INDEX : MACHINE;
        }
    }
}
