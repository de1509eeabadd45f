import java.util.Random;

/** Many runs of calls, made up from fixed seeds, on RouteEngine and on the model beside it. */
public final class ModelTest {
    private static final int RUNS = 10000;
    private static final int TEXT_MOST = 45;
    /** So many calls are kept for the look at everything at the end of a run. */
    private static final int LAST_LOOK = 160;
    private static final String LETTERS = "+-*kb?fs>&!riaq():,<=%0123456789x";

    private final Check check;
    private final Random random;
    private final Engine x = new Engine();
    private final Model y = new Model();
    private final int run;
    /** In these runs routes split and run other routes so much that exchanges are cut. */
    private final boolean heavy;
    /** In these runs routes are mostly steps a and q, so that much waits at once. */
    private final boolean gathering;

    private ModelTest(Check check, int run) {
        this.check = check;
        this.run = run;
        random = new Random(run);
        heavy = run % 5 == 0;
        gathering = run % 5 == 1;
    }

    public static void main(String[] args) {
        Check check = new Check();
        for (int run = 0; run < RUNS; run++) {
            new ModelTest(check, run).calls();
        }
        check.end();
    }

    private void calls() {
        for (int r = 0; r < 4; r++) {
            write(r);
        }
        same("read()", x.read(), y.read());
        while (x.callsLeft() > LAST_LOOK + TEXT_MOST + 1) {
            call();
        }
        everything();
    }

    private void same(String call, long got, long want) {
        check.due("run " + run + ": " + call, got, want);
    }

    private void same(String call, boolean got, boolean want) {
        same(call, got ? 1 : 0, want ? 1 : 0);
    }

    private int below(int n) {
        return random.nextInt(n);
    }

    private boolean oneIn(int n) {
        return below(n) == 0;
    }

    private void call() {
        int which = below(100);
        if (which < 50) {
            int r = oneIn(40) ? below(9) - 3 : below(4);
            int body = oneIn(10) ? random.nextInt() : below(30) - 4;
            int key = oneIn(20) ? random.nextInt() : below(oneIn(3) ? 16 : 4);
            same("send(" + r + ", " + body + ", " + key + ")", x.send(r, body, key), y.send(r, body, key));
        } else if (which < 62) {
            same("work()", x.work(), y.work());
        } else if (which < 74) {
            int n = oneIn(10) ? below(110) - 4 : 1 + below(6);
            same("pass(" + n + ")", x.pass(n), y.pass(n));
        } else if (which < 82) {
            int d = below(5) - (oneIn(20) ? 1 : 0);
            int n = below(11);
            int t = oneIn(20) ? below(11) - 1 : 1 + below(7);
            same("fail(" + d + ", " + n + ", " + t + ")", x.fail(d, n, t), y.fail(d, n, t));
        } else if (which < 88) {
            clause();
        } else if (which < 90) {
            x.forget();
            y.forget();
        } else if (which < 92) {
            write(below(4));
        } else if (which < 93) {
            same("read()", x.read(), y.read());
        } else {
            look();
        }
    }

    private void clause() {
        int t = oneIn(20) ? below(11) - 1 : 1 + below(7);
        int maximum = oneIn(20) ? below(9) - 1 : below(6);
        int delay = oneIn(20) ? below(25) - 1 : below(21);
        boolean handled = random.nextBoolean();
        boolean original = random.nextBoolean();
        same("clause", x.clause(t, maximum, delay, handled, original), y.clause(t, maximum, delay, handled, original));
    }

    private void look() {
        int what = below(15) - 1;
        int d = below(7) - 1;
        int k = below(10) - 1;
        int i = below(Math.max(y.count(10), 1));
        switch (below(4)) {
            case 0 -> same("count(" + what + ")", x.count(what), y.count(what));
            case 1 -> same("group(" + i + ", " + k + ")", x.group(i, k), y.group(i, k));
            case 2 -> same("body(" + d + ", " + k + ")", x.body(d, k), y.body(d, k));
            default -> same("delivered(" + d + ")", x.delivered(d), y.delivered(d));
        }
    }

    private void everything() {
        for (int what = -1; what <= 13; what++) {
            same("count(" + what + ")", x.count(what), y.count(what));
        }
        for (int d = 0; d <= 4; d++) {
            same("delivered(" + d + ")", x.delivered(d), y.delivered(d));
            for (int k = 0; k <= 7; k++) {
                same("body(" + d + ", " + k + ")", x.body(d, k), y.body(d, k));
                same("key(" + d + ", " + k + ")", x.key(d, k), y.key(d, k));
            }
        }
        for (int i = 0; i <= y.count(10) && x.callsLeft() >= 4; i++) {
            for (int what = 0; what <= 3; what++) {
                same("group(" + i + ", " + what + ")", x.group(i, what), y.group(i, what));
            }
        }
    }

    private void write(int r) {
        StringBuilder text = new StringBuilder(oneIn(12) ? "" : list(r, 0, 1 + below(9)));
        if (text.length() > 40 && !oneIn(10)) {
            text = new StringBuilder(list(r, 0, 3));
        }
        if (oneIn(15)) {
            spoil(text);
        }
        text.setLength(Math.min(text.length(), TEXT_MOST));
        same("clear(" + r + ")", x.clear(r), y.clear(r));
        for (int i = 0; i < text.length(); i++) {
            same("put(" + r + ", " + text.charAt(i) + ")", x.put(r, text.charAt(i)), y.put(r, text.charAt(i)));
        }
    }

    private void spoil(StringBuilder text) {
        int place = below(text.length() + 1);
        char c = LETTERS.charAt(below(LETTERS.length()));
        switch (below(4)) {
            case 0 -> text.insert(place, c);
            case 1 -> text.setLength(place);
            case 2 -> text.replace(place, Math.min(place + 1, text.length()), "");
            default -> text.replace(place, Math.min(place + 1, text.length()), String.valueOf(c));
        }
    }

    private String list(int r, int depth, int steps) {
        StringBuilder text = new StringBuilder();
        for (int i = 0; i < steps; i++) {
            text.append(step(r, depth));
        }
        return text.toString();
    }

    private String inner(int r, int depth) {
        return "(" + list(r, depth + 1, below(4)) + ")";
    }

    private String test() {
        char relation = "<>=%".charAt(below(4));
        return "bk".charAt(below(2)) + "" + relation + (relation == '%' ? 1 + below(4) : below(12));
    }

    private String step(int r, int depth) {
        boolean mayOpen = depth < 3 || oneIn(60);
        boolean mayGather = depth == 0 || oneIn(60);
        if (heavy && oneIn(2)) {
            return mayOpen && oneIn(2) ? "s4(" + step(r, depth + 1) + ")" : r < 3 ? ">" + (r + 1) : "!0";
        }
        switch (gathering && depth == 0 && !oneIn(4) ? 14 + below(2) : below(16)) {
            case 0: return "+" + below(12);
            case 1: return "-" + below(12);
            case 2: return "*" + below(4);
            case 3: return "k";
            case 4: return "b";
            case 5: return mayOpen ? "?" + test() + inner(r, depth) : "k";
            case 6: return mayOpen ? "?" + test() + inner(r, depth) + ":" + inner(r, depth) : "k";
            case 7: return "f" + test();
            case 8: return mayOpen ? "s" + (1 + below(4)) + inner(r, depth) : "r";
            case 9: return r < 3 ? ">" + (r + 1 + below(3 - r)) : "!" + below(4);
            case 10: return "&" + below(4);
            case 11: return "!" + below(4);
            case 12: return "r";
            case 13: return "i";
            case 14: return mayGather ? "a" + (2 + below(3)) + "," + (1 + below(oneIn(4) ? 99 : 9)) : "!" + below(4);
            default: return mayGather ? "q" + (2 + below(3)) : "!" + below(4);
        }
    }
}
