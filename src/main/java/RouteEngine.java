import java.util.Arrays;

/**
 * An engine that routes messages through four routes written in a small language.
 *
 * A place in one of the four texts is a "spot": route * STRIDE + place. Steps, lists and
 * what waits to begin are all named by spots, so that one row serves all routes.
 */
public final class RouteEngine {
    public static final int NONE = -1;

    private static final int ROUTES = 4;
    private static final int TEXT_MOST = 40;
    // One spot more than a text has characters: it stays 0, so that every text has an end.
    private static final int STRIDE = TEXT_MOST + 1;
    private static final int SPOTS = ROUTES * STRIDE;
    private static final int PARENTHESES_MOST = 3;
    // A route may be run from the innermost list of each route before it.
    private static final int DEPTHS = ROUTES * (PARENTHESES_MOST + 1);
    private static final int DIGITS_MOST = 4;
    private static final int NUMBER_MOST = 9999;
    private static final int PARTS_MOST = 4;
    private static final int WAIT_MOST = 99;

    private static final int RUNNING = 0;
    private static final int COMPLETED = 1;
    private static final int FILTERED = 2;
    private static final int MERGED = 3;
    private static final int DUPLICATE = 4;
    private static final int DEAD = 5;
    private static final int FAILED = 6;
    private static final int CUT = 7;
    private static final int BEGUN = 0;

    private static final int NO_THROW = 0;
    private static final int TOO_MANY_GROUPS = 5;
    private static final int QUEUE_IS_FULL = 6;
    private static final int THROWN_MOST = 7;

    private static final int ATTEMPTS_MOST = 100;
    private static final int QUEUE_MOST = 8;
    private static final int ROW_MOST = 4;
    // An attempt makes at most a row of exchanges ready; one more is sent, worked or due.
    private static final int READY_MOST = ATTEMPTS_MOST * ROW_MOST + 1;
    private static final int GROUPS_OF_STEP = 3;
    private static final int SHORTEST_GATHERING = 4;
    private static final int GROUPS_MOST = ROUTES * (TEXT_MOST / SHORTEST_GATHERING) * GROUPS_OF_STEP;
    // Far above the groups that can be released and the exchanges that can begin in one call.
    private static final int ROUNDS_MOST = 100000;

    private static final int ENDPOINTS = 4;
    private static final int ALL_ENDPOINTS = 15;
    private static final int DEAD_LETTERS = 4;
    private static final int LATEST = 8;
    private static final int FAILURES_MOST = 9;
    private static final int CLAUSES_MOST = 4;
    private static final int MAXIMUM_MOST = 5;
    private static final int DELAY_MOST = 20;
    private static final int GROWTH_MOST = 60;
    private static final int PASS_MOST = 100;

    private final int[] lengths;
    private final Program written;
    private final Program running;
    private final Reader reader;
    private final Clauses clauses;
    private final Endpoint[] endpoints;
    private final Line queue;
    private final Line ready;
    private final Groups groups;
    private final Kept kept;
    private final Exchange[] exchanges;
    private final int[] counts;
    private int attempts;
    private int time;
    private int held;
    private int redeliveries;

    public RouteEngine() {
        lengths = new int[ROUTES];
        written = new Program();
        running = new Program();
        reader = new Reader(written);
        clauses = new Clauses();
        endpoints = new Endpoint[ENDPOINTS + 1];
        for (int d = 0; d <= ENDPOINTS; d++) {
            endpoints[d] = new Endpoint();
        }
        queue = new Line(QUEUE_MOST);
        ready = new Line(READY_MOST);
        groups = new Groups();
        kept = new Kept();
        exchanges = new Exchange[DEPTHS];
        for (int i = 0; i < DEPTHS; i++) {
            exchanges[i] = new Exchange();
        }
        counts = new int[CUT + 1];
    }

    public boolean put(int r, char c) {
        if (!isRoute(r) || c < 33 || c > 126 || lengths[r] >= TEXT_MOST) {
            return false;
        }
        written.text[r * STRIDE + lengths[r]] = c;
        lengths[r]++;
        return true;
    }

    public boolean clear(int r) {
        if (!isRoute(r)) {
            return false;
        }
        for (int i = 0; i < TEXT_MOST; i++) {
            written.text[r * STRIDE + i] = 0;
        }
        lengths[r] = 0;
        return true;
    }

    public int read() {
        for (int r = 0; r < ROUTES; r++) {
            int place = reader.firstError(r);
            if (place != NONE) {
                return 100 * (r + 1) + place;
            }
        }
        running.copyFrom(written);
        queue.empty();
        groups.size = 0;
        kept.empty();
        held = 0;
        return 0;
    }

    public boolean clause(int t, int maximum, int delay, boolean handled, boolean original) {
        if (!isThrown(t) || maximum < 0 || maximum > MAXIMUM_MOST || delay < 0 || delay > DELAY_MOST) {
            return false;
        }
        return clauses.add(t, maximum, delay, handled, original);
    }

    public void forget() {
        clauses.size = 0;
    }

    public boolean fail(int d, int failures, int t) {
        if (d < 0 || d >= ENDPOINTS || failures < 0 || failures > FAILURES_MOST || !isThrown(t)) {
            return false;
        }
        endpoints[d].failures = failures;
        endpoints[d].thrown = t;
        return true;
    }

    public int send(int r, int body, int key) {
        if (!isRoute(r)) {
            return NONE;
        }
        attempts = 0;
        ready.add(r * STRIDE, body, key);
        return runReady();
    }

    public int work() {
        if (queue.size == 0) {
            return NONE;
        }
        attempts = 0;
        int slot = queue.first;
        ready.add(queue.spots[slot], queue.bodies[slot], queue.keys[slot]);
        queue.dropFirst();
        return runReady();
    }

    public int pass(int n) {
        if (n < 1 || n > PASS_MOST) {
            return NONE;
        }
        attempts = 0;
        int released = 0;
        for (int i = 0; i < n; i++) {
            time++;
            int g = groups.firstDue(time);
            for (int k = 0; k < ROUNDS_MOST && g != NONE; k++) {
                release(g);
                released++;
                runReady();
                g = groups.firstDue(time);
            }
        }
        return released;
    }

    public int delivered(int d) {
        return d >= 0 && d <= DEAD_LETTERS ? endpoints[d].got : NONE;
    }

    public int body(int d, int k) {
        return isDelivery(d, k) ? endpoints[d].bodies[endpoints[d].slotBefore(k)] : 0;
    }

    public int key(int d, int k) {
        return isDelivery(d, k) ? endpoints[d].keys[endpoints[d].slotBefore(k)] : 0;
    }

    public int group(int i, int what) {
        if (i < 0 || i >= groups.size) {
            return 0;
        }
        switch (what) {
            case 0: return groups.keys[i];
            case 1: return groups.sums[i];
            case 2: return groups.members[i];
            case 3: return groups.dues[i];
            default: return 0;
        }
    }

    public int count(int what) {
        if (what >= BEGUN && what <= CUT) {
            return counts[what];
        }
        switch (what) {
            case 8: return time;
            case 9: return queue.size;
            case 10: return groups.size;
            case 11: return held;
            case 12: return redeliveries;
            default: return NONE;
        }
    }

    private static boolean isRoute(int r) {
        return r >= 0 && r < ROUTES;
    }

    private static boolean isThrown(int t) {
        return t >= 1 && t <= THROWN_MOST;
    }

    private boolean isDelivery(int d, int k) {
        return d >= 0 && d <= DEAD_LETTERS && k >= 0 && k < LATEST && k < endpoints[d].got;
    }

    private void begin(Exchange exchange, int body, int key) {
        exchange.body = body;
        exchange.key = key;
        exchange.original = body;
        exchange.outcome = RUNNING;
        counts[BEGUN]++;
    }

    private void end(Exchange exchange, int outcome) {
        exchange.outcome = outcome;
        counts[outcome]++;
    }

    /**
     * Runs all that is ready, also what becomes ready meanwhile, and answers the outcome of
     * the first. A call that runs an exchange of its own makes that one ready first.
     */
    private int runReady() {
        int outcome = NONE;
        Exchange exchange = exchanges[0];
        for (int k = 0; k < ROUNDS_MOST && ready.size > 0; k++) {
            int slot = ready.first;
            int start = ready.spots[slot];
            begin(exchange, ready.bodies[slot], ready.keys[slot]);
            ready.dropFirst();
            runList(exchange, start, 0);
            if (exchange.outcome == RUNNING) {
                end(exchange, COMPLETED);
            }
            if (k == 0) {
                outcome = exchange.outcome;
            }
        }
        return outcome;
    }

    private void runList(Exchange exchange, int start, int depth) {
        // The reader lets no text nest so deep that this refuses.
        if (depth >= DEPTHS) {
            end(exchange, FAILED);
            return;
        }
        int spot = start;
        for (int k = 0; k < TEXT_MOST && exchange.outcome == RUNNING && running.isStep(spot); k++) {
            runStep(exchange, spot, depth);
            spot = running.after[spot];
        }
    }

    private void runStep(Exchange exchange, int spot, int depth) {
        for (int n = 1; n <= MAXIMUM_MOST + 1; n++) {
            if (attempts >= ATTEMPTS_MOST) {
                end(exchange, CUT);
                return;
            }
            attempts++;
            int thrown = attempt(exchange, spot, depth);
            if (thrown == NO_THROW || !isRedelivered(exchange, thrown, n)) {
                return;
            }
        }
    }

    /** Answers what the step throws. */
    private int attempt(Exchange exchange, int spot, int depth) {
        int number = running.number[spot];
        switch (running.text[spot]) {
            case '+': exchange.body += number; break;
            case '-': exchange.body -= number; break;
            case '*': exchange.body *= number; break;
            case 'k': exchange.key = exchange.body; break;
            case 'b': exchange.body = exchange.key; break;
            case '?': runList(exchange, running.listFor(exchange, spot), depth + 1); break;
            case '>': runList(exchange, number * STRIDE, depth + 1); break;
            case 's': runParts(exchange, spot, depth + 1); break;
            case 'f': filter(exchange, spot); break;
            case 'i': endIfDuplicate(exchange, spot); break;
            case 'q': hold(exchange, spot); break;
            case 'a': return gather(exchange, spot);
            case '&': return copyToQueue(exchange, number);
            case '!': return deliver(exchange, 1 << number);
            case 'r': return deliver(exchange, exchange.key & ALL_ENDPOINTS);
            default: break;
        }
        return NO_THROW;
    }

    /** Sees to a throw of attempt n; whether the step is to be attempted once more. */
    private boolean isRedelivered(Exchange exchange, int thrown, int n) {
        int c = clauses.firstFor(thrown);
        if (c == NONE) {
            end(exchange, FAILED);
            return false;
        }
        if (n <= clauses.maximums[c]) {
            redeliveries++;
            time += Math.min(clauses.delays[c] << (n - 1), GROWTH_MOST);
            return true;
        }
        if (clauses.handled[c]) {
            int body = clauses.original[c] ? exchange.original : exchange.body;
            endpoints[DEAD_LETTERS].accept(body, exchange.key);
            end(exchange, DEAD);
        } else {
            end(exchange, FAILED);
        }
        return false;
    }

    private void runParts(Exchange exchange, int spot, int depth) {
        int parts = running.number[spot];
        if (depth >= DEPTHS || parts < 1) {
            end(exchange, FAILED);
            return;
        }
        // One object serves all parts of a depth: they run one after the other.
        Exchange part = exchanges[depth];
        int sum = 0;
        for (int i = 0; i < parts; i++) {
            begin(part, Math.floorDiv(exchange.body + i, parts), exchange.key);
            runList(part, running.inner[spot], depth);
            if (part.outcome == RUNNING) {
                end(part, COMPLETED);
                sum += part.body;
            }
        }
        exchange.body = sum;
    }

    private void filter(Exchange exchange, int spot) {
        if (!running.holds(exchange, spot)) {
            end(exchange, FILTERED);
        }
    }

    private void endIfDuplicate(Exchange exchange, int spot) {
        if (kept.has(spot, exchange.key)) {
            end(exchange, DUPLICATE);
        } else {
            kept.addLatest(spot, exchange.key);
        }
    }

    private void hold(Exchange exchange, int spot) {
        kept.addInOrder(spot, exchange.body, exchange.key);
        held++;
        end(exchange, MERGED);
        int size = kept.sizes[spot];
        if (size < running.number[spot]) {
            return;
        }
        for (int i = 0; i < size; i++) {
            int slot = spot * ROW_MOST + i;
            ready.add(running.after[spot], kept.bodies[slot], kept.keys[slot]);
        }
        kept.sizes[spot] = 0;
        held -= size;
    }

    private int gather(Exchange exchange, int spot) {
        int g = groups.find(spot, exchange.key);
        if (g == NONE) {
            g = groups.open(spot, exchange.key, time + running.second[spot]);
        }
        if (g == NONE) {
            return TOO_MANY_GROUPS;
        }
        groups.sums[g] += exchange.body;
        groups.members[g]++;
        end(exchange, MERGED);
        if (groups.members[g] >= running.number[spot]) {
            release(g);
        }
        return NO_THROW;
    }

    private void release(int g) {
        ready.add(running.after[groups.spots[g]], groups.sums[g], groups.keys[g]);
        groups.remove(g);
    }

    private int copyToQueue(Exchange exchange, int route) {
        boolean added = queue.add(route * STRIDE, exchange.body, exchange.key);
        return added ? NO_THROW : QUEUE_IS_FULL;
    }

    /** Delivers to the endpoints whose bits are on, until one throws. */
    private int deliver(Exchange exchange, int bits) {
        for (int d = 0; d < ENDPOINTS; d++) {
            if ((bits >> d & 1) == 0) {
                continue;
            }
            if (endpoints[d].failures > 0) {
                endpoints[d].failures--;
                return endpoints[d].thrown;
            }
            endpoints[d].accept(exchange.body, exchange.key);
        }
        return NO_THROW;
    }

    private static final class Exchange {
        int body;
        int key;
        int original;
        int outcome;
    }

    /** The four texts and, at the spot of each step, what the reader found out about it. */
    private static final class Program {
        final char[] text = new char[SPOTS];
        final int[] number = new int[SPOTS];
        final int[] second = new int[SPOTS];
        final int[] inner = new int[SPOTS];
        final int[] other = new int[SPOTS];
        final int[] after = new int[SPOTS];

        char at(int spot) {
            return spot >= 0 && spot < SPOTS ? text[spot] : 0;
        }

        boolean isStep(int spot) {
            return at(spot) != 0 && at(spot) != ')';
        }

        /** The test stands right behind the letter of its step. */
        boolean holds(Exchange exchange, int spot) {
            int value = at(spot + 1) == 'b' ? exchange.body : exchange.key;
            int limit = number[spot];
            switch (at(spot + 2)) {
                case '<': return value < limit;
                case '>': return value > limit;
                case '=': return value == limit;
                default: return limit != 0 && value % limit == 0;
            }
        }

        int listFor(Exchange exchange, int spot) {
            return holds(exchange, spot) ? inner[spot] : other[spot];
        }

        void copyFrom(Program from) {
            System.arraycopy(from.text, 0, text, 0, SPOTS);
            System.arraycopy(from.number, 0, number, 0, SPOTS);
            System.arraycopy(from.second, 0, second, 0, SPOTS);
            System.arraycopy(from.inner, 0, inner, 0, SPOTS);
            System.arraycopy(from.other, 0, other, 0, SPOTS);
            System.arraycopy(from.after, 0, after, 0, SPOTS);
        }
    }

    /** Reads the texts of a program; after an error nothing is read any more. */
    private static final class Reader {
        private final Program program;
        private int route;
        private int spot;
        private int error;

        Reader(Program program) {
            this.program = program;
            error = NONE;
        }

        /** The place of the first error of a route's text, or NONE. */
        int firstError(int r) {
            route = r;
            spot = r * STRIDE;
            error = NONE;
            readList(0);
            return error == NONE ? NONE : error - r * STRIDE;
        }

        private void readList(int depth) {
            for (int k = 0; k <= TEXT_MOST && error == NONE; k++) {
                char c = program.at(spot);
                if (c == 0) {
                    if (depth > 0) {
                        error = spot;
                    }
                    return;
                }
                if (c == ')' && depth > 0) {
                    spot++;
                    return;
                }
                readStep(c, depth);
            }
        }

        private void readStep(char c, int depth) {
            int step = spot;
            spot++;
            switch (c) {
                case 'k': case 'b': case 'r': case 'i': break;
                case '+': case '-': case '*': readNumber(program.number, step, 0, NUMBER_MOST); break;
                case '!': readNumber(program.number, step, 0, ENDPOINTS - 1); break;
                case '&': readNumber(program.number, step, 0, ROUTES - 1); break;
                case '>': readNumber(program.number, step, route + 1, ROUTES - 1); break;
                case 'f': readTest(step); break;
                case '?': readChoice(step, depth); break;
                case 's': readSplit(step, depth); break;
                case 'a': readGathering(step, depth); break;
                case 'q': readOrdering(step, depth); break;
                default: error = step; break;
            }
            program.after[step] = spot;
        }

        /** Reads a number into the row, at the spot of its step. */
        private void readNumber(int[] row, int step, int least, int most) {
            if (error != NONE) {
                return;
            }
            int first = spot;
            int value = 0;
            for (int k = 0; k < DIGITS_MOST; k++) {
                char c = program.at(spot);
                if (c < '0' || c > '9') {
                    break;
                }
                value = value * 10 + (c - '0');
                spot++;
            }
            if (spot == first || value < least || value > most) {
                error = first;
            }
            row[step] = value;
        }

        private void readOneOf(String characters) {
            if (error != NONE) {
                return;
            }
            if (characters.indexOf(program.at(spot)) >= 0) {
                spot++;
            } else {
                error = spot;
            }
        }

        private void readTest(int step) {
            readOneOf("bk");
            boolean divides = program.at(spot) == '%';
            readOneOf("<>=%");
            readNumber(program.number, step, divides ? 1 : 0, NUMBER_MOST);
        }

        /** Reads a list in parentheses; answers the spot at which it begins. */
        private int readInner(int depth) {
            if (depth >= PARENTHESES_MOST && error == NONE) {
                error = spot;
            }
            readOneOf("(");
            int first = spot;
            readList(depth + 1);
            return first;
        }

        private void readChoice(int step, int depth) {
            readTest(step);
            program.inner[step] = readInner(depth);
            program.other[step] = NONE;
            if (error == NONE && program.at(spot) == ':') {
                spot++;
                program.other[step] = readInner(depth);
            }
        }

        private void readSplit(int step, int depth) {
            readNumber(program.number, step, 1, PARTS_MOST);
            program.inner[step] = readInner(depth);
        }

        private void readGathering(int step, int depth) {
            refuseInner(step, depth);
            readNumber(program.number, step, 2, ROW_MOST);
            readOneOf(",");
            readNumber(program.second, step, 1, WAIT_MOST);
        }

        private void readOrdering(int step, int depth) {
            refuseInner(step, depth);
            readNumber(program.number, step, 2, ROW_MOST);
        }

        private void refuseInner(int step, int depth) {
            if (depth > 0) {
                error = step;
            }
        }
    }

    /** The clauses in their order. */
    private static final class Clauses {
        final int[] numbers = new int[CLAUSES_MOST];
        final int[] maximums = new int[CLAUSES_MOST];
        final int[] delays = new int[CLAUSES_MOST];
        final boolean[] handled = new boolean[CLAUSES_MOST];
        final boolean[] original = new boolean[CLAUSES_MOST];
        int size;

        boolean add(int number, int maximum, int delay, boolean isHandled, boolean isOriginal) {
            if (size >= CLAUSES_MOST) {
                return false;
            }
            numbers[size] = number;
            maximums[size] = maximum;
            delays[size] = delay;
            handled[size] = isHandled;
            original[size] = isOriginal;
            size++;
            return true;
        }

        int firstFor(int thrown) {
            for (int c = 0; c < size; c++) {
                // No number above 7 is thrown, so halving twice comes down to 1.
                if (numbers[c] == thrown || numbers[c] == thrown / 2 || numbers[c] == thrown / 4) {
                    return c;
                }
            }
            return NONE;
        }
    }

    /** What an endpoint got, of which only the latest is kept, and its failures. */
    private static final class Endpoint {
        final int[] bodies = new int[LATEST];
        final int[] keys = new int[LATEST];
        int got;
        int failures;
        int thrown;

        void accept(int body, int key) {
            int slot = Math.floorMod(got, LATEST);
            bodies[slot] = body;
            keys[slot] = key;
            got++;
        }

        int slotBefore(int k) {
            return Math.floorMod(got - 1 - k, LATEST);
        }
    }

    /** Bodies and keys that wait in line, each with the spot at which it is to begin. */
    private static final class Line {
        final int most;
        final int[] spots;
        final int[] bodies;
        final int[] keys;
        int first;
        int size;

        Line(int most) {
            this.most = Math.max(most, 1);
            spots = new int[this.most];
            bodies = new int[this.most];
            keys = new int[this.most];
        }

        boolean add(int spot, int body, int key) {
            if (size >= most) {
                return false;
            }
            int slot = (first + size) % most;
            spots[slot] = spot;
            bodies[slot] = body;
            keys[slot] = key;
            size++;
            return true;
        }

        void dropFirst() {
            if (size > 0) {
                first = (first + 1) % most;
                size--;
            }
        }

        void empty() {
            size = 0;
        }
    }

    /** The open groups of all steps, in the order in which they were opened. */
    private static final class Groups {
        final int[] spots = new int[GROUPS_MOST];
        final int[] keys = new int[GROUPS_MOST];
        final int[] sums = new int[GROUPS_MOST];
        final int[] members = new int[GROUPS_MOST];
        final int[] dues = new int[GROUPS_MOST];
        int size;

        int find(int spot, int key) {
            for (int g = 0; g < size; g++) {
                if (spots[g] == spot && keys[g] == key) {
                    return g;
                }
            }
            return NONE;
        }

        int firstDue(int time) {
            for (int g = 0; g < size; g++) {
                if (dues[g] <= time) {
                    return g;
                }
            }
            return NONE;
        }

        /** Answers NONE if the step has as many groups as it may have. */
        int open(int spot, int key, int due) {
            if (size >= GROUPS_MOST || openOf(spot) >= GROUPS_OF_STEP) {
                return NONE;
            }
            spots[size] = spot;
            keys[size] = key;
            sums[size] = 0;
            members[size] = 0;
            dues[size] = due;
            size++;
            return size - 1;
        }

        private int openOf(int spot) {
            int open = 0;
            for (int g = 0; g < size; g++) {
                if (spots[g] == spot) {
                    open++;
                }
            }
            return open;
        }

        void remove(int g) {
            if (g < 0 || g >= size) {
                return;
            }
            for (int i = g; i < size - 1; i++) {
                spots[i] = spots[i + 1];
                keys[i] = keys[i + 1];
                sums[i] = sums[i + 1];
                members[i] = members[i + 1];
                dues[i] = dues[i + 1];
            }
            size--;
        }
    }

    /**
     * A row of at most four for every spot: the keys that a step i keeps, or the bodies and
     * keys that a step q holds. No spot has both steps, so they share the rows.
     */
    private static final class Kept {
        final int[] sizes = new int[SPOTS];
        final int[] bodies = new int[SPOTS * ROW_MOST];
        final int[] keys = new int[SPOTS * ROW_MOST];

        void empty() {
            Arrays.fill(sizes, 0);
        }

        boolean has(int spot, int key) {
            int start = spot * ROW_MOST;
            for (int i = 0; i < sizes[spot]; i++) {
                if (keys[start + i] == key) {
                    return true;
                }
            }
            return false;
        }

        void addLatest(int spot, int key) {
            int start = spot * ROW_MOST;
            if (sizes[spot] >= ROW_MOST) {
                System.arraycopy(keys, start + 1, keys, start, ROW_MOST - 1);
                sizes[spot] = ROW_MOST - 1;
            }
            keys[start + sizes[spot]] = key;
            sizes[spot]++;
        }

        /** Behind those with the same key, so that they stay in the order in which they came. */
        void addInOrder(int spot, int body, int key) {
            if (sizes[spot] >= ROW_MOST) {
                return;
            }
            int start = spot * ROW_MOST;
            int slot = start + sizes[spot];
            while (slot > start && keys[slot - 1] > key) {
                bodies[slot] = bodies[slot - 1];
                keys[slot] = keys[slot - 1];
                slot--;
            }
            bodies[slot] = body;
            keys[slot] = key;
            sizes[spot]++;
        }
    }
}
