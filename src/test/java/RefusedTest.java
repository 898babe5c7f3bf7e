import java.util.ArrayList;
import java.util.List;

/**
 * "Methods throw what their comments name, the one named first when several would do. .. A call that throws changes nothing."
 * Each call that is refused is made in each state; what the object answers behind it is held against one that was not asked.
 */
public final class RefusedTest {
    private static final int[] FAR = {Integer.MIN_VALUE, Integer.MIN_VALUE + 1, -65536, -2, -1, Integer.MAX_VALUE - 1, Integer.MAX_VALUE};
    private static final String RIGHT = "module m ( input p , output reg [ 7 : 0 ] q = 8'd9 ) ; endmodule "
        + "module a ( input x ) ; wire [ 7 : 0 ] w ; m k ( . p ( x ) , . q ( w ) ) ; assert ( ! w ) ; endmodule";
    private static final String[] STATES = {"new", "some tape", "empty again", "read right", "right and tape", "read wrong", "right then wrong",
        "right then wrong and tape", "found"};

    /** A call that is refused: what it is told as, and what it does. */
    private interface Call {
        long answer(CircuitText x);
    }

    private static final List<String> TOLD = new ArrayList<>();
    private static final List<Long> DUE = new ArrayList<>();
    private static final List<Call> CALLS = new ArrayList<>();

    public static void main(String[] args) {
        for (String state : STATES) {
            refusedIn(state);
            for (int i = 0; i < CALLS.size(); i++) {
                oneRefused(state, i);
            }
            allRefused(state);
        }
        fullTape();
        betweenAllCalls();
        Bench.done("RefusedTest");
    }

    private static CircuitText in(String state) {
        CircuitText x = new CircuitText();
        switch (state) {
            case "new": break;
            case "some tape": Bench.put(x, "module b ( ) ; "); break;
            case "empty again": Bench.put(x, "#"); x.end(0); break;
            case "read right": Bench.put(x, RIGHT); x.read(); break;
            case "right and tape": Bench.put(x, RIGHT); x.read(); Bench.put(x, "x"); break;
            case "read wrong": Bench.put(x, "module b ( output o ) ; endmodule"); x.read(); break;
            case "right then wrong": Bench.put(x, RIGHT); x.read(); Bench.put(x, "#"); x.read(); break;
            case "right then wrong and tape": Bench.put(x, RIGHT); x.read(); Bench.put(x, "x"); x.read(); Bench.put(x, "w"); break;
            default: Bench.put(x, RIGHT); x.read(); Bench.put(x, "k"); x.find(1); break;
        }
        return x;
    }

    private static void refuse(String told, long due, Call call) {
        TOLD.add(told);
        DUE.add(due);
        CALLS.add(call);
    }

    /** All that is refused in a state, at its edges and far from them. */
    private static void refusedIn(String state) {
        TOLD.clear();
        DUE.clear();
        CALLS.clear();
        CircuitText x = in(state);
        int length = Bench.length(x);
        int modules = x.count();
        refuse("end(length + 1)", Bench.ARGUMENT, y -> Bench.end(y, length + 1));
        refuse("end(length + 20)", Bench.ARGUMENT, y -> Bench.end(y, length + 20));
        refusedModules(modules);
        for (int far : FAR) {
            refuse("end(" + far + ")", Bench.ARGUMENT, y -> Bench.end(y, far));
        }
        for (int m = 0; m < modules; m++) {
            refusedOf(m, x.module(m, 1));
        }
    }

    private static void refusedModules(int modules) {
        List<Integer> outside = new ArrayList<>(List.of(modules, modules + 1));
        for (int far : FAR) {
            outside.add(far);
        }
        for (int m : outside) {
            refuse("find(" + m + ")", Bench.INDEX, y -> Bench.find(y, m, ""));
            for (int what : new int[] {-1, 0, 4, 7, 8}) {
                refuse("module(" + m + ", " + what + ")", Bench.INDEX, y -> Bench.module(y, m, what));
                refuse("declared(" + m + ", 0, " + what + ")", Bench.INDEX, y -> Bench.declared(y, m, 0, what));
                refuse("declared(" + m + ", -1, " + what + ")", Bench.INDEX, y -> Bench.declared(y, m, -1, what));
            }
            refuse("beginning(" + m + ", 0)", Bench.INDEX, y -> Bench.beginning(y, m, 0));
            refuse("beginning(" + m + ", -1)", Bench.INDEX, y -> Bench.beginning(y, m, -1));
        }
    }

    /** Of a module that there is. */
    private static void refusedOf(int m, int names) {
        List<Integer> wrong = new ArrayList<>(List.of(8));
        List<Integer> noName = new ArrayList<>(List.of(names, names + 1));
        for (int far : FAR) {
            wrong.add(far);
            noName.add(far);
        }
        for (int what : wrong) {
            refuse("module(" + m + ", " + what + ")", Bench.ARGUMENT, y -> Bench.module(y, m, what));
            refuse("declared(" + m + ", 0, " + what + ")", Bench.ARGUMENT, y -> Bench.declared(y, m, 0, what));
            refuse("declared(" + m + ", last, " + what + ")", Bench.ARGUMENT, y -> Bench.declared(y, m, names - 1, what));
        }
        refuse("declared(" + m + ", 0, 4)", Bench.ARGUMENT, y -> Bench.declared(y, m, 0, 4));
        for (int k : noName) {
            refuse("beginning(" + m + ", " + k + ")", Bench.INDEX, y -> Bench.beginning(y, m, k));
            for (int what : new int[] {-1, 0, 3, 4}) {
                refuse("declared(" + m + ", " + k + ", " + what + ")", Bench.INDEX, y -> Bench.declared(y, m, k, what));
            }
        }
    }

    private static void oneRefused(String state, int i) {
        for (int way = 0; way < 3; way++) {
            CircuitText x = in(state);
            Bench.due(state + ": " + TOLD.get(i), CALLS.get(i).answer(x), DUE.get(i));
            same(state + ", behind " + TOLD.get(i), allAnswers(x, way), allAnswers(in(state), way));
        }
    }

    /** As many as there are, within the 512 calls of an object. */
    private static void allRefused(String state) {
        CircuitText x = in(state);
        for (int i = 0; i < CALLS.size() && i < 350; i++) {
            Bench.due(state + ": " + TOLD.get(i), CALLS.get(i).answer(x), DUE.get(i));
        }
        same(state + ", behind all", allAnswers(x, 0), allAnswers(in(state), 0));
    }

    private static void same(String when, List<Long> got, List<Long> due) {
        Bench.due(when + ": answers", got.size(), due.size());
        for (int i = 0; i < got.size() && i < due.size(); i++) {
            Bench.due(when + ": answer " + i, got.get(i), due.get(i));
        }
    }

    /** All that an object can be asked. The tape is looked at last: by its length, then by what read() or find() make of it. */
    private static List<Long> allAnswers(CircuitText x, int way) {
        List<Long> answers = new ArrayList<>();
        if (way == 1) {
            answers.add((long) x.read());
        } else if (way == 2 && x.count() > 1) {
            answers.add((long) x.find(1));
        }
        modules(x, answers);
        int length = Bench.length(x);
        answers.add((long) length);
        Bench.put(x, "(");
        answers.add((long) Bench.length(x));
        answers.add((long) x.read());
        modules(x, answers);
        return answers;
    }

    private static void modules(CircuitText x, List<Long> answers) {
        answers.add((long) x.fault());
        answers.add((long) x.count());
        for (int m = 0; m < x.count(); m++) {
            for (int what = 0; what <= 7; what++) {
                answers.add((long) x.module(m, what));
            }
            for (int k = 0; k < x.module(m, 1); k++) {
                for (int what = 0; what <= 3; what++) {
                    answers.add((long) x.declared(m, k, what));
                }
                answers.add(x.beginning(m, k));
            }
        }
    }

    /** Promise 2: a feed that would be too long leaves the tape, to its last byte, and all else. */
    private static void fullTape() {
        for (int length : new int[] {65517, 65530, 65535, 65536}) {
            CircuitText x = in("right then wrong");
            Bench.fill(x, length);
            for (int i = 0; i < 3; i++) {
                Bench.due("feed at " + length, Bench.feed(x, 0x23232323, 0, 0, 0, -1), Bench.UNSUPPORTED);
            }
            Bench.due("end(length + 1)", Bench.end(x, length + 1), Bench.ARGUMENT);
            Bench.due("end(length)", Bench.end(x, length), 0);
            Bench.due("fault()", x.fault(), 1);
            Bench.due("count()", x.count(), 2);
            Bench.due("read()", x.read(), length);
            Bench.due("fault() of blanks alone", x.fault(), 2);
            Bench.due("feed then", Bench.feed(x, 0, 0, 0, 0, 0), 20);
        }
    }

    /** A run in which all kinds of calls are made, with refused ones before each, and the same run without these. */
    private static void betweenAllCalls() {
        same("a run with refused calls", run(true), run(false));
    }

    private static List<Long> run(boolean refused) {
        List<Long> answers = new ArrayList<>();
        CircuitText x = new CircuitText();
        int length = 0;
        for (int i = 0; i < RIGHT.length(); i += 20) {
            refusals(x, length, refused);
            Bench.put(x, RIGHT.substring(i, Math.min(i + 20, RIGHT.length())));
            length = Math.min(i + 20, RIGHT.length());
        }
        refusals(x, length, refused);
        answers.add((long) x.read());
        refusals(x, 0, refused);
        modules(x, answers);
        for (String name : new String[] {"x", "w", "k", "m", "q"}) {
            Bench.put(x, name);
            refusals(x, 1, refused);
            answers.add((long) x.find(1));
            refusals(x, 0, refused);
        }
        Bench.put(x, "module m ( input x , input x ) ; endmodule");
        refusals(x, 42, refused);
        answers.add((long) x.read());
        refusals(x, 0, refused);
        modules(x, answers);
        return answers;
    }

    private static void refusals(CircuitText x, int length, boolean refused) {
        if (refused) {
            Bench.due("end(-1)", Bench.end(x, -1), Bench.ARGUMENT);
            Bench.due("end(" + (length + 1) + ")", Bench.end(x, length + 1), Bench.ARGUMENT);
            Bench.due("module(2, 0)", Bench.module(x, 2, 0), Bench.INDEX);
            Bench.due("module(0, 8)", Bench.module(x, 0, 8), x.count() > 0 ? Bench.ARGUMENT : Bench.INDEX);
            Bench.due("declared(0, 2, 0)", Bench.declared(x, 0, 2, 0), Bench.INDEX);
            Bench.due("declared(0, 0, 4)", Bench.declared(x, 0, 0, 4), x.count() > 0 ? Bench.ARGUMENT : Bench.INDEX);
            Bench.due("beginning(0, 2)", Bench.beginning(x, 0, 2), Bench.INDEX);
            Bench.due("find(2)", Bench.find(x, 2, ""), Bench.INDEX);
        }
    }
}
