import java.util.EnumMap;
import java.util.Map;

/**
 * Refused calls change nothing, as later calls show it: two objects get the same calls, one of
 * them the refused call too, and then many calls on both of them must have the same answers.
 * The next call on the other side of the bound is taken, and the later answers do show it.
 */
public final class RefusedTest {
    private static final Check CHECK = new Check();
    private static final int LEAST = Integer.MIN_VALUE;
    private static final int MOST = Integer.MAX_VALUE;
    private static final int NONE = -1;
    private static final int TRUE = 1;
    private static final int FALSE = 0;
    private static final int[] NO_ROUTES = {LEAST, -5, -1, 4, 5, 8, 256, MOST};

    /** What an object has got before the call. */
    private enum State { NEW, USED, NO_COPIES, BROKEN_TEXT, FULL }

    private interface Call {
        int on(Engine x);
    }

    private static final Map<State, String> WITHOUT = new EnumMap<>(State.class);

    public static void main(String[] args) {
        for (State state : State.values()) {
            WITHOUT.put(state, later(prepare(state)));
        }
        put();
        putToFullText();
        clear();
        read();
        clause();
        clauseAsFifth();
        fail();
        send();
        work();
        pass();
        questions();
        CHECK.end();
    }

    private static Engine prepare(State state) {
        if (state == State.NEW) {
            return new Engine();
        }
        if (state == State.FULL) {
            return full();
        }
        Engine x = used();
        if (state == State.NO_COPIES) {
            x.work();
            x.work();
        }
        if (state == State.BROKEN_TEXT) {
            x.put(2, ')');
        }
        return x;
    }

    /** Something of everything is there, and nothing is full; texts were changed and not read. */
    private static Engine used() {
        Engine x = CHECK.engine("i&1!0", "a3,9!1", "q4!2", "r");
        x.clause(6, 0, 0, false, true);
        x.clause(1, 1, 2, true, false);
        x.fail(3, 3, 5);
        x.send(0, 11, 1);
        x.send(0, 12, 2);
        x.send(1, 5, 7);
        x.send(1, 6, 8);
        x.send(2, 9, 3);
        x.send(2, 8, 2);
        x.send(3, 4, 15);
        x.pass(3);
        x.fail(1, 2, 6);
        x.put(0, 'k');
        x.clear(3);
        CHECK.append(x, 3, "*2!3");
        return x;
    }

    /** Eight copies, four clauses, three groups, three held, four kept, a text of 40 characters. */
    private static Engine full() {
        Engine x = CHECK.engine("i&1!0", "a3,9!1", "q4!2", "r");
        for (int t : new int[] {7, 5, 4, 2}) {
            x.clause(t, 1, t, true, false);
        }
        for (int i = 1; i <= 8; i++) {
            x.send(0, 10 * i, i);
        }
        for (int i = 1; i <= 3; i++) {
            x.send(1, 10 * i, i);
            x.send(2, 10 * i, i);
        }
        x.fail(2, 9, 7);
        CHECK.append(x, 0, "+1".repeat(17) + "k");
        return x;
    }

    /** The answers of calls that show the whole state: what it is, runs on, takes in and reads. */
    private static String later(Engine x) {
        StringBuilder all = new StringBuilder(Check.counts(x)).append(" | ").append(Check.groups(x));
        for (int d = 0; d <= 4; d++) {
            all.append(" | ").append(Check.got(x, d));
        }
        runs(x, all);
        look(x, all);
        takesIn(x, all);
        look(x, all);
        reads(x, all);
        look(x, all);
        return all.toString();
    }

    private static void look(Engine x, StringBuilder all) {
        all.append(" | ").append(Check.counts(x)).append(" | ").append(Check.groups(x));
        for (int d = 0; d <= 4; d++) {
            all.append(" | ").append(x.delivered(d)).append(' ').append(x.body(d, 0)).append('/').append(x.key(d, 0));
        }
    }

    private static void runs(Engine x, StringBuilder all) {
        all.append(" | ").append(x.send(0, 1, 1)).append(x.send(0, 2, 9)).append(x.work()).append(x.work());
        all.append(x.send(1, 3, 7)).append(x.send(1, 3, 4)).append(x.send(2, 1, 1)).append(x.send(2, 2, 1));
        all.append(x.send(3, 60, 15)).append(x.send(3, 61, 8)).append(x.send(3, 62, 12)).append(x.send(3, 63, 15));
        all.append(x.pass(1)).append(x.pass(20)).append(x.work());
    }

    private static void takesIn(Engine x, StringBuilder all) {
        all.append(" | ");
        for (int i = 0; i < 4; i++) {
            all.append(x.clause(1, i, i, true, true));
        }
        for (int d = 0; d <= 3; d++) {
            all.append(x.fail(d, 2, 3)).append(x.send(3, 70, 1 << d)).append(x.fail(d, 0, 1));
        }
    }

    private static void reads(Engine x, StringBuilder all) {
        int error = x.read();
        all.append(" | ").append(error).append(' ');
        if (error != 0) {
            all.append(x.clear(error / 100 - 1));
        }
        for (int r = 0; r <= 3; r++) {
            all.append(x.put(r, '!')).append(x.put(r, '3'));
        }
        all.append(x.read()).append(' ');
        for (int r = 0; r <= 3; r++) {
            all.append(x.send(r, 5, 15)).append(x.send(r, 5, 14)).append(' ').append(Check.got(x, 3));
        }
    }

    private static void refused(State state, String call, int want, Call refused) {
        Engine x = prepare(state);
        CHECK.due(call + " when " + state, refused.on(x), want);
        CHECK.same("later answers after " + call + " when " + state, later(x), WITHOUT.get(state));
    }

    private static void taken(State state, String call, int want, Call taken) {
        Engine x = prepare(state);
        CHECK.due(call + " when " + state, taken.on(x), want);
        CHECK.no(call + " when " + state + " is not shown by later answers", later(x).equals(WITHOUT.get(state)));
    }

    private static void put() {
        CHECK.says("False, changing nothing, when r is not 0 .. 3, c is not 33 .. 126 or the text has 40.");
        for (State state : State.values()) {
            for (int r : NO_ROUTES) {
                refused(state, "put(" + r + ", k)", FALSE, x -> x.put(r, 'k') ? 1 : 0);
            }
            for (char c : new char[] {0, 10, 31, 32, 127, 128, 255, 256 + 'k', 65535}) {
                for (int route = 0; route <= 3; route++) {
                    int r = route;
                    refused(state, "put(" + r + ", " + (int) c + ")", FALSE, x -> x.put(r, c) ? 1 : 0);
                }
            }
        }
        for (char c : new char[] {33, 34, 125, 126, 'k'}) {
            for (int route = 0; route <= 3; route++) {
                int r = route;
                taken(State.NEW, "put(" + r + ", " + (int) c + ")", TRUE, x -> x.put(r, c) ? 1 : 0);
            }
        }
    }

    private static void putToFullText() {
        CHECK.says("False, changing nothing, when r is not 0 .. 3, c is not 33 .. 126 or the text has 40.");
        for (char c = 33; c <= 126; c++) {
            char last = c;
            refused(State.FULL, "put(0, " + c + ") as the 41st", FALSE, x -> x.put(0, last) ? 1 : 0);
        }
        taken(State.FULL, "put to another text", TRUE, x -> x.put(1, '!') ? 1 : 0);
    }

    private static void clear() {
        CHECK.says("Makes the text of route r empty; false when r is not 0 .. 3.");
        for (State state : State.values()) {
            for (int r : NO_ROUTES) {
                refused(state, "clear(" + r + ")", FALSE, x -> x.clear(r) ? 1 : 0);
            }
        }
        taken(State.USED, "clear(0)", TRUE, x -> x.clear(0) ? 1 : 0);
        taken(State.USED, "clear(3)", TRUE, x -> x.clear(3) ? 1 : 0);
    }

    private static void read() {
        CHECK.says("the least route whose text has one, and changes nothing.");
        refused(State.BROKEN_TEXT, "read()", 304, Engine::read);
        refused(State.NEW, "read() of an x that is cleared", 100, x -> {
            x.put(0, 'x');
            int answer = x.read();
            x.clear(0);
            return answer;
        });
        taken(State.USED, "read()", 0, Engine::read);
        taken(State.FULL, "read()", 0, Engine::read);
    }

    private static void clause(State state, int t, int maximum, int delay) {
        String call = "clause(" + t + ", " + maximum + ", " + delay + ")";
        refused(state, call, FALSE, x -> x.clause(t, maximum, delay, true, true) ? 1 : 0);
        refused(state, call, FALSE, x -> x.clause(t, maximum, delay, false, false) ? 1 : 0);
    }

    private static void clause() {
        CHECK.says("False, changing nothing, when a number is not as said or 4 clauses are there.");
        for (State state : State.values()) {
            for (int n : new int[] {LEAST, -1, 100, MOST}) {
                clause(state, n, 1, 1);
                clause(state, 1, n, 1);
                clause(state, 1, 1, n);
            }
            clause(state, 0, 1, 1);
            clause(state, 8, 1, 1);
            clause(state, 1, 6, 1);
            clause(state, 1, 1, 21);
            clause(state, 8, 6, 21);
        }
        int[][] taken = {{1, 1, 1}, {7, 1, 1}, {1, 0, 1}, {1, 5, 1}, {1, 1, 0}, {1, 1, 20}};
        for (int[] c : taken) {
            taken(State.NEW, "clause", TRUE, x -> x.clause(c[0], c[1], c[2], true, true) ? 1 : 0);
            taken(State.USED, "clause", TRUE, x -> x.clause(c[0], c[1], c[2], false, false) ? 1 : 0);
        }
    }

    private static void clauseAsFifth() {
        CHECK.says("False, changing nothing, when a number is not as said or 4 clauses are there.");
        for (int t = 1; t <= 7; t++) {
            clause(State.FULL, t, 0, 0);
            clause(State.FULL, t, 5, 20);
        }
    }

    private static void fail() {
        CHECK.says("False, changing nothing, when a number is not as said.");
        int[][] refused = {
            {-1, 1, 1}, {4, 1, 1}, {5, 1, 1}, {LEAST, 1, 1}, {MOST, 1, 1}, {0, -1, 1}, {1, 10, 1}, {2, LEAST, 1}, {3, MOST, 1},
            {0, 1, 0}, {1, 0, 8}, {2, 9, -1}, {3, 0, LEAST}, {3, 0, MOST}, {4, 10, 8},
        };
        for (State state : State.values()) {
            for (int[] f : refused) {
                refused(state, "fail(" + f[0] + ", " + f[1] + ", " + f[2] + ")", FALSE, x -> x.fail(f[0], f[1], f[2]) ? 1 : 0);
            }
        }
        int[][] taken = {{0, 1, 1}, {3, 0, 1}, {1, 9, 1}, {1, 2, 7}, {1, 2, 1}};
        for (int[] f : taken) {
            taken(State.USED, "fail(" + f[0] + ", " + f[1] + ", " + f[2] + ")", TRUE, x -> x.fail(f[0], f[1], f[2]) ? 1 : 0);
        }
    }

    private static void send() {
        CHECK.says("Answers its outcome; NONE, changing nothing, when r is not 0 .. 3.");
        for (State state : State.values()) {
            for (int r : NO_ROUTES) {
                refused(state, "send(" + r + ", 1, 2)", NONE, x -> x.send(r, 1, 2));
            }
        }
        taken(State.NEW, "send(0, 1, 2)", 1, x -> x.send(0, 1, 2));
        taken(State.NEW, "send(3, 1, 2)", 1, x -> x.send(3, 1, 2));
        taken(State.USED, "send(0, 1, 2)", 4, x -> x.send(0, 1, 2));
        taken(State.FULL, "send(1, 1, 4)", 5, x -> x.send(1, 1, 4));
    }

    private static void work() {
        CHECK.says("Answers its outcome; NONE, changing nothing, when the queue is empty.");
        refused(State.NEW, "work()", NONE, Engine::work);
        refused(State.NO_COPIES, "work()", NONE, Engine::work);
        taken(State.USED, "work()", 3, Engine::work);
        taken(State.FULL, "work()", 3, Engine::work);
    }

    private static void pass() {
        CHECK.says("NONE, changing nothing, when n is not 1 .. 100.");
        for (State state : State.values()) {
            for (int n : new int[] {LEAST, -100, -1, 0, 101, 102, 1000, MOST}) {
                refused(state, "pass(" + n + ")", NONE, x -> x.pass(n));
            }
        }
        taken(State.NEW, "pass(1)", 0, x -> x.pass(1));
        taken(State.NEW, "pass(100)", 0, x -> x.pass(100));
        taken(State.USED, "pass(1)", 0, x -> x.pass(1));
        taken(State.USED, "pass(100)", 2, x -> x.pass(100));
    }

    private static void questions() {
        CHECK.says("NONE for another d.");
        for (int n : new int[] {LEAST, -1, 0, 3, 4, 5, 7, 8, 12, 13, 120, MOST}) {
            for (State state : State.values()) {
                Engine x = prepare(state);
                x.delivered(n);
                x.body(n, 0);
                x.body(0, n);
                x.key(n, 0);
                x.key(4, n);
                x.group(n, 0);
                x.group(0, n);
                x.count(n);
                CHECK.same("later answers after questions with " + n + " when " + state, later(x), WITHOUT.get(state));
            }
        }
    }
}
