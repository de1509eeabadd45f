import java.util.ArrayDeque;
import java.util.ArrayList;
import java.util.Comparator;
import java.util.List;

/** The document once more, in objects, lists and exceptions: what RouteEngine is compared with. */
final class Model {
    private static final class BadText extends RuntimeException {
        private static final long serialVersionUID = 1;
        final int place;

        BadText(int place) {
            this.place = place;
        }
    }

    private static final class Ended extends RuntimeException {
        private static final long serialVersionUID = 1;
        final int outcome;

        Ended(int outcome) {
            super(null, null, false, false);
            this.outcome = outcome;
        }
    }

    private static final class Thrown extends RuntimeException {
        private static final long serialVersionUID = 1;
        final int t;

        Thrown(int t) {
            super(null, null, false, false);
            this.t = t;
        }
    }

    private static final class Step {
        char letter;
        int n;
        int wait;
        char subject;
        char relation;
        List<Step> list = List.of();
        List<Step> otherwise = List.of();
        List<Step> route;
        ArrayDeque<Integer> keys = new ArrayDeque<>();
        List<int[]> held = new ArrayList<>();
    }

    private static final class Exchange {
        int body;
        int key;
        int original;
    }

    private record Clause(int t, int maximum, int delay, boolean handled, boolean original) { }

    private record Waiting(List<Step> steps, int body, int key) { }

    private static final class Group {
        Step step;
        int key;
        int sum;
        int members;
        int due;
    }

    private static final class Parser {
        private final String text;
        private final int route;
        private int place;

        Parser(String text, int route) {
            this.text = text;
            this.route = route;
        }

        List<Step> all() {
            List<Step> steps = new ArrayList<>();
            while (place < text.length()) {
                steps.add(step(0, steps));
            }
            return steps;
        }

        private char take(String allowed) {
            if (place >= text.length() || allowed.indexOf(text.charAt(place)) < 0) {
                throw new BadText(place);
            }
            return text.charAt(place++);
        }

        private int number(int from, int to) {
            int first = place;
            take("0123456789");
            while (place < text.length() && place < first + 4 && Character.isDigit(text.charAt(place))) {
                place++;
            }
            int n = Integer.parseInt(text.substring(first, place));
            if (n < from || n > to) {
                throw new BadText(first);
            }
            return n;
        }

        private void test(Step s) {
            s.subject = take("bk");
            s.relation = take("<>=%");
            s.n = number(s.relation == '%' ? 1 : 0, 9999);
        }

        private List<Step> list(int depth) {
            int open = place;
            take("(");
            if (depth == 3) {
                throw new BadText(open);
            }
            List<Step> steps = new ArrayList<>();
            while (place >= text.length() || text.charAt(place) != ')') {
                steps.add(step(depth + 1, steps));
            }
            place++;
            return steps;
        }

        private Step step(int depth, List<Step> route) {
            Step s = new Step();
            s.route = route;
            s.letter = take(depth == 0 ? "+-*kb?fs>&!riaq" : "+-*kb?fs>&!ri");
            switch (s.letter) {
                case '+', '-', '*' -> s.n = number(0, 9999);
                case '&', '!' -> s.n = number(0, 3);
                case '>' -> s.n = number(this.route + 1, 3);
                case 'f' -> test(s);
                case '?' -> {
                    test(s);
                    s.list = list(depth);
                    if (place < text.length() && text.charAt(place) == ':') {
                        place++;
                        s.otherwise = list(depth);
                    }
                }
                case 's' -> {
                    s.n = number(1, 4);
                    s.list = list(depth);
                }
                case 'a' -> {
                    s.n = number(2, 4);
                    take(",");
                    s.wait = number(1, 99);
                }
                case 'q' -> s.n = number(2, 4);
                default -> { }
            }
            return s;
        }
    }

    private final StringBuilder[] texts = new StringBuilder[4];
    private List<List<Step>> routes = new ArrayList<>();
    private final List<Clause> clauses = new ArrayList<>();
    private final int[] failures = new int[4];
    private final int[] failureNumber = new int[4];
    private final List<List<int[]>> deliveries = new ArrayList<>();
    private final ArrayDeque<Waiting> queue = new ArrayDeque<>();
    private final ArrayDeque<Waiting> ready = new ArrayDeque<>();
    private final List<Group> groups = new ArrayList<>();
    private final int[] outcomes = new int[8];
    private int attemptsLeft;
    private int time;
    private int redeliveries;

    Model() {
        for (int i = 0; i < 4; i++) {
            texts[i] = new StringBuilder();
            routes.add(List.of());
        }
        for (int d = 0; d < 5; d++) {
            deliveries.add(new ArrayList<>());
        }
    }

    boolean put(int r, char c) {
        if (r < 0 || r > 3 || c < 33 || c > 126 || texts[r].length() == 40) {
            return false;
        }
        texts[r].append(c);
        return true;
    }

    boolean clear(int r) {
        if (r < 0 || r > 3) {
            return false;
        }
        texts[r].setLength(0);
        return true;
    }

    int read() {
        List<List<Step>> parsed = new ArrayList<>();
        for (int r = 0; r < 4; r++) {
            try {
                parsed.add(new Parser(texts[r].toString(), r).all());
            } catch (BadText bad) {
                return 100 * (r + 1) + bad.place;
            }
        }
        routes = parsed;
        queue.clear();
        groups.clear();
        return 0;
    }

    boolean clause(int t, int maximum, int delay, boolean handled, boolean original) {
        if (t < 1 || t > 7 || maximum < 0 || maximum > 5 || delay < 0 || delay > 20 || clauses.size() == 4) {
            return false;
        }
        clauses.add(new Clause(t, maximum, delay, handled, original));
        return true;
    }

    void forget() {
        clauses.clear();
    }

    boolean fail(int d, int n, int t) {
        if (d < 0 || d > 3 || n < 0 || n > 9 || t < 1 || t > 7) {
            return false;
        }
        failures[d] = n;
        failureNumber[d] = t;
        return true;
    }

    int send(int r, int body, int key) {
        if (r < 0 || r > 3) {
            return -1;
        }
        attemptsLeft = 100;
        int outcome = whole(new Exchange(), routes.get(r), body, key);
        runReady();
        return outcome;
    }

    int work() {
        if (queue.isEmpty()) {
            return -1;
        }
        attemptsLeft = 100;
        Waiting w = queue.removeFirst();
        int outcome = whole(new Exchange(), w.steps, w.body, w.key);
        runReady();
        return outcome;
    }

    int pass(int n) {
        if (n < 1 || n > 100) {
            return -1;
        }
        attemptsLeft = 100;
        int released = 0;
        for (int i = 0; i < n; i++) {
            time++;
            Group due = firstDue();
            while (due != null) {
                release(due);
                released++;
                runReady();
                due = firstDue();
            }
        }
        return released;
    }

    int delivered(int d) {
        return d < 0 || d > 4 ? -1 : deliveries.get(d).size();
    }

    int body(int d, int k) {
        return latest(d, k)[0];
    }

    int key(int d, int k) {
        return latest(d, k)[1];
    }

    int group(int i, int what) {
        if (i < 0 || i >= groups.size()) {
            return 0;
        }
        Group g = groups.get(i);
        return switch (what) {
            case 0 -> g.key;
            case 1 -> g.sum;
            case 2 -> g.members;
            case 3 -> g.due;
            default -> 0;
        };
    }

    int count(int what) {
        if (what >= 0 && what <= 7) {
            return outcomes[what];
        }
        return switch (what) {
            case 8 -> time;
            case 9 -> queue.size();
            case 10 -> groups.size();
            case 11 -> routes.stream().flatMap(List::stream).mapToInt(s -> s.held.size()).sum();
            case 12 -> redeliveries;
            default -> -1;
        };
    }

    private int[] latest(int d, int k) {
        if (d < 0 || d > 4 || k < 0 || k > 7 || k >= deliveries.get(d).size()) {
            return new int[2];
        }
        return deliveries.get(d).get(deliveries.get(d).size() - 1 - k);
    }

    private Group firstDue() {
        return groups.stream().filter(g -> g.due <= time).findFirst().orElse(null);
    }

    private List<Step> behind(Step s) {
        return s.route.subList(s.route.indexOf(s) + 1, s.route.size());
    }

    private void release(Group g) {
        groups.remove(g);
        ready.addLast(new Waiting(behind(g.step), g.sum, g.key));
    }

    private void runReady() {
        while (!ready.isEmpty()) {
            Waiting w = ready.removeFirst();
            whole(new Exchange(), w.steps, w.body, w.key);
        }
    }

    /** The whole life of an exchange; answers its outcome. */
    private int whole(Exchange e, List<Step> steps, int body, int key) {
        outcomes[0]++;
        e.body = body;
        e.original = body;
        e.key = key;
        int outcome = 1;
        try {
            run(e, steps);
        } catch (Ended ended) {
            outcome = ended.outcome;
        }
        outcomes[outcome]++;
        return outcome;
    }

    private void run(Exchange e, List<Step> steps) {
        for (Step s : steps) {
            int n = 1;
            while (!attempt(e, s, n)) {
                n++;
            }
        }
    }

    private boolean attempt(Exchange e, Step s, int n) {
        if (attemptsLeft == 0) {
            throw new Ended(7);
        }
        attemptsLeft--;
        try {
            doStep(e, s);
            return true;
        } catch (Thrown thrown) {
            Clause c = clauses.stream().filter(x -> covers(x.t, thrown.t)).findFirst().orElse(null);
            if (c == null) {
                throw new Ended(6);
            }
            if (n <= c.maximum) {
                redeliveries++;
                int grows = c.delay;
                for (int i = 1; i < n; i++) {
                    grows += grows;
                }
                time += Math.min(grows, 60);
                return false;
            }
            if (!c.handled) {
                throw new Ended(6);
            }
            deliveries.get(4).add(new int[] {c.original ? e.original : e.body, e.key});
            throw new Ended(5);
        }
    }

    private static boolean covers(int clause, int t) {
        return t >= 1 && (clause == t || covers(clause, t / 2));
    }

    private static boolean holds(Exchange e, Step s) {
        int value = s.subject == 'k' ? e.key : e.body;
        return switch (s.relation) {
            case '<' -> value < s.n;
            case '>' -> value > s.n;
            case '=' -> value == s.n;
            default -> value % s.n == 0;
        };
    }

    private void doStep(Exchange e, Step s) {
        switch (s.letter) {
            case '+' -> e.body = e.body + s.n;
            case '-' -> e.body = e.body - s.n;
            case '*' -> e.body = e.body * s.n;
            case 'k' -> e.key = e.body;
            case 'b' -> e.body = e.key;
            case '?' -> run(e, holds(e, s) ? s.list : s.otherwise);
            case 'f' -> {
                if (!holds(e, s)) {
                    throw new Ended(2);
                }
            }
            case 's' -> split(e, s);
            case '>' -> run(e, routes.get(s.n));
            case '&' -> {
                if (queue.size() == 8) {
                    throw new Thrown(6);
                }
                queue.addLast(new Waiting(routes.get(s.n), e.body, e.key));
            }
            case '!' -> deliver(e, s.n);
            case 'r' -> {
                for (int d = 0; d < 4; d++) {
                    if ((e.key & 1 << d) != 0) {
                        deliver(e, d);
                    }
                }
            }
            case 'i' -> {
                if (s.keys.contains(e.key)) {
                    throw new Ended(4);
                }
                s.keys.addLast(e.key);
                if (s.keys.size() > 4) {
                    s.keys.removeFirst();
                }
            }
            case 'a' -> gather(e, s);
            default -> hold(e, s);
        }
    }

    private void split(Exchange e, Step s) {
        int sum = 0;
        for (int i = 0; i < s.n; i++) {
            Exchange part = new Exchange();
            if (whole(part, s.list, Math.floorDiv(e.body + i, s.n), e.key) == 1) {
                sum += part.body;
            }
        }
        e.body = sum;
    }

    private void deliver(Exchange e, int d) {
        if (failures[d] > 0) {
            failures[d]--;
            throw new Thrown(failureNumber[d]);
        }
        deliveries.get(d).add(new int[] {e.body, e.key});
    }

    private void gather(Exchange e, Step s) {
        Group g = groups.stream().filter(x -> x.step == s && x.key == e.key).findFirst().orElse(null);
        if (g == null) {
            if (groups.stream().filter(x -> x.step == s).count() == 3) {
                throw new Thrown(5);
            }
            g = new Group();
            g.step = s;
            g.key = e.key;
            g.due = time + s.wait;
            groups.add(g);
        }
        g.sum += e.body;
        g.members++;
        if (g.members == s.n) {
            release(g);
        }
        throw new Ended(3);
    }

    private void hold(Exchange e, Step s) {
        s.held.add(new int[] {e.body, e.key});
        if (s.held.size() == s.n) {
            s.held.sort(Comparator.comparingInt(h -> h[1]));
            for (int[] h : s.held) {
                ready.addLast(new Waiting(behind(s), h[0], h[1]));
            }
            s.held.clear();
        }
        throw new Ended(3);
    }
}
