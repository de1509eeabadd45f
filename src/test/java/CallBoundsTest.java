/**
 * The bounds that the document names in promises 1 and 8 to 15, and the number of calls. Each
 * test stands beside the words that it tests, on both sides of the bound.
 */
public final class CallBoundsTest {
    private static final Check CHECK = new Check();
    private static final int LEAST = Integer.MIN_VALUE;
    private static final int MOST = Integer.MAX_VALUE;
    private static final int NONE = -1;
    /** Below, at, inside and above every bound of an argument that the document names. */
    private static final int[] NUMBERS = {
        LEAST, LEAST + 1, -256, -100, -8, -5, -4, -1, 0, 1, 2, 3, 4, 5, 6, 7, 8, 9, 10, 11, 12, 13, 14, 15, 16, 31, 32,
        99, 100, 101, 102, 119, 120, 255, 256, 257, 65536, 1 << 30, MOST - 1, MOST,
    };

    public static void main(String[] args) {
        fiveHundredTwelveCalls();
        fiveHundredTwelveRuns();
        exactlyOneOutcome();
        newObject();
        newRoutes();
        sendRoutes();
        workOnTheQueue();
        workLeavesRoomForOne();
        passNumbers();
        passTimes();
        dueNotAfterTheTime();
        openedFirst();
        releasedForBeingDue();
        asLongAsThereAreGroupsDue();
        deliveredNumbers();
        bodyAndKeyOfTheLatestEight();
        bodyAndKeyNumbers();
        groupNumbers();
        countNumbers();
        everyCountGrows();
        CHECK.end();
    }

    private static boolean in(int n, int least, int most) {
        return n >= least && n <= most;
    }

    private static void fiveHundredTwelveCalls() {
        CHECK.says("An object is used for at most 512 calls after it has been made; what later calls answer is free.");
        Engine x = new Engine();
        for (int i = 1; i <= 511; i++) {
            CHECK.due("send", x.send(i % 4, i, i), 1);
        }
        CHECK.due("count as the 512th call", x.count(0), 511);
        Engine y = new Engine();
        for (int i = 1; i <= 511; i++) {
            CHECK.due("pass", y.pass(100), 0);
        }
        CHECK.due("the time as the 512th call", y.count(8), 51100);
        Engine z = new Engine();
        for (int i = 1; i <= 255; i++) {
            CHECK.yes("put", z.put(3, 'x'));
            CHECK.yes("clear", z.clear(3));
        }
        CHECK.yes("put as the 511th call", z.put(3, 'x'));
        CHECK.due("read() as the 512th call", z.read(), 400);
    }

    private static void fiveHundredTwelveRuns() {
        CHECK.says("An object is used for at most 512 calls after it has been made; what later calls answer is free.");
        // Each send makes 100 attempts, of which 96 are deliveries.
        Engine x = CHECK.engine(">1".repeat(4) + "!0".repeat(16), "!0".repeat(20));
        int sends = x.callsLeft() - 1;
        for (int i = 0; i < sends; i++) {
            CHECK.due("send", x.send(0, i, i), 1);
        }
        CHECK.due("delivered as the 512th call", x.delivered(0), 96 * sends);
    }

    private static void exactlyOneOutcome() {
        CHECK.says("An exchange that has begun ends with exactly one OUTCOME");
        Engine x = CHECK.engine("s4(s4(s4(>1)))q2i!0", "?b%2(&2):(r)>2", "a3,4!1>3", "q3!2");
        CHECK.yes("clause", x.clause(3, 1, 3, true, true));
        CHECK.yes("clause", x.clause(2, 2, 1, false, true));
        for (int i = 0; i < 30; i++) {
            CHECK.yes("fail", x.fail(i % 4, i % 10, i % 7 + 1));
            CHECK.yes("send", in(x.send(i % 4, 37 * i, i % 5), 1, 7));
            CHECK.yes("work", in(x.work(), NONE, 7));
            CHECK.yes("pass", in(x.pass(1 + i % 3), 0, 120));
            int ended = 0;
            for (int outcome = 1; outcome <= 7; outcome++) {
                ended += x.count(outcome);
            }
            CHECK.due("the exchanges that ended", ended, x.count(0));
        }
    }

    private static void newObject() {
        CHECK.says("All texts are empty, and were read so; no clauses, no failures; nothing was sent.");
        Engine x = new Engine();
        CHECK.counts(x, "0 0 0 0 0 0 0 0 0 0 0 0 0");
        for (int d = 0; d <= 4; d++) {
            CHECK.due("delivered", x.delivered(d), 0);
            for (int k = 0; k <= 7; k++) {
                CHECK.due("body", x.body(d, k), 0);
                CHECK.due("key", x.key(d, k), 0);
            }
        }
        CHECK.due("work", x.work(), NONE);
        CHECK.says("THE TIME is 0 at first.");
        CHECK.due("the time", x.count(8), 0);
        CHECK.due("pass", x.pass(1), 0);
        CHECK.due("the time", x.count(8), 1);
    }

    private static void newRoutes() {
        CHECK.says("All texts are empty, and were read so; no clauses, no failures; nothing was sent.");
        Engine x = new Engine();
        for (int r = 0; r <= 3; r++) {
            CHECK.due("send through an empty route", x.send(r, 5, 6), 1);
        }
        CHECK.counts(x, "4 4 0 0 0 0 0 0 0 0 0 0 0");
        CHECK.due("read() of four empty texts", x.read(), 0);
        CHECK.append(x, 0, "r");
        CHECK.due("read()", x.read(), 0);
        CHECK.due("send to endpoints without failures", x.send(0, 5, 15), 1);
        CHECK.yes("fail", x.fail(0, 1, 1));
        CHECK.due("send without a clause", x.send(0, 5, 15), 6);
        for (int i = 0; i < 4; i++) {
            CHECK.yes("clause", x.clause(1, 0, 0, true, false));
        }
        CHECK.no("clause as the fifth", x.clause(1, 0, 0, true, false));
    }

    private static void sendRoutes() {
        CHECK.says("Answers its outcome; NONE, changing nothing, when r is not 0 .. 3.");
        for (int r : NUMBERS) {
            Engine x = CHECK.engine("!0", "!1", "!2", "!3");
            CHECK.due("send(" + r + ", 8, 9)", x.send(r, 8, 9), in(r, 0, 3) ? 1 : NONE);
            CHECK.counts(x, in(r, 0, 3) ? "1 1 0 0 0 0 0 0 0 0 0 0 0" : "0 0 0 0 0 0 0 0 0 0 0 0 0");
            for (int d = 0; d <= 3; d++) {
                CHECK.got(x, d, d == r ? "8/9" : "");
            }
        }
    }

    private static void workOnTheQueue() {
        CHECK.says("Answers its outcome; NONE, changing nothing, when the queue is empty.");
        Engine x = CHECK.engine("&1&2", "fb=1", "!2");
        CHECK.due("work on an empty queue", x.work(), NONE);
        CHECK.counts(x, "0 0 0 0 0 0 0 0 0 0 0 0 0");
        CHECK.due("send", x.send(0, 5, 6), 1);
        CHECK.due("work on a queue of two", x.work(), 2);
        CHECK.due("work on a queue of one", x.work(), 1);
        CHECK.counts(x, "3 2 1 0 0 0 0 0 0 0 0 0 0");
        CHECK.due("work on an empty queue", x.work(), NONE);
        CHECK.counts(x, "3 2 1 0 0 0 0 0 0 0 0 0 0");
        CHECK.got(x, 2, "5/6");
    }

    private static void workLeavesRoomForOne() {
        CHECK.says("The first copy leaves the queue, begins as an exchange and runs through its route.");
        Engine x = CHECK.engine("+1!0&0", "&0", "&0&0", "&2");
        for (int i = 0; i < 8; i++) {
            CHECK.due("send", x.send(1, 10 * i, i), 1);
        }
        for (int i = 0; i < 20; i++) {
            CHECK.due("work, that finds room for its own copy", x.work(), 1);
            CHECK.due("copies in the queue", x.count(9), 8);
            CHECK.due("body", x.body(0, 0), 10 * (i % 8) + i / 8 + 1);
            CHECK.due("key", x.key(0, 0), i % 8);
        }
        CHECK.due("read()", x.read(), 0);
        for (int i = 0; i < 8; i++) {
            CHECK.due("send", x.send(3, i, i), 1);
        }
        CHECK.due("work, that finds no room for its second copy", x.work(), 6);
        CHECK.due("copies in the queue", x.count(9), 8);
    }

    private static void passNumbers() {
        CHECK.says("NONE, changing nothing, when n is not 1 .. 100.");
        for (int n : NUMBERS) {
            Engine x = CHECK.engine("a2,1!0");
            CHECK.due("send", x.send(0, 5, 6), 3);
            CHECK.due("pass(" + n + ")", x.pass(n), in(n, 1, 100) ? 1 : NONE);
            CHECK.due("the time", x.count(8), in(n, 1, 100) ? n : 0);
            CHECK.groups(x, in(n, 1, 100) ? "" : "6/5/1/1");
            CHECK.got(x, 0, in(n, 1, 100) ? "5/6" : "");
        }
    }

    private static void passTimes() {
        CHECK.says("n times (n is 1 .. 100): the time grows by 1");
        Engine x = CHECK.engine("a2,1>1", "+1a2,1>2", "+1a2,1>3", "+1a2,1+1!0");
        // What is released at one time is gathered by the next step, and is due at the next time.
        CHECK.due("send", x.send(0, 5, 6), 3);
        CHECK.due("pass", x.pass(1), 1);
        CHECK.groups(x, "6/6/1/2");
        CHECK.due("pass", x.pass(2), 2);
        CHECK.groups(x, "6/8/1/4");
        CHECK.due("pass", x.pass(1), 1);
        CHECK.got(x, 0, "9/6");
        CHECK.due("the time", x.count(8), 4);
        CHECK.due("send", x.send(0, 5, 6), 3);
        CHECK.due("pass", x.pass(100), 4);
        CHECK.got(x, 0, "9/6 9/6");
        CHECK.due("the time", x.count(8), 104);
    }

    private static void dueNotAfterTheTime() {
        CHECK.says("as long as there are groups that are due (not after the time)");
        Engine x = CHECK.engine("a4,99!0", "a4,98!0", "!1");
        CHECK.due("send", x.send(0, 1, 1), 3);
        CHECK.due("send", x.send(1, 2, 2), 3);
        CHECK.due("pass", x.pass(97), 0);
        CHECK.due("pass to the time at which one is due", x.pass(1), 1);
        CHECK.groups(x, "1/1/1/99");
        CHECK.due("pass to the time at which the other is due", x.pass(1), 1);
        CHECK.got(x, 0, "2/2 1/1");
        // Redeliveries bring the time to what is due, but only pass releases it.
        CHECK.yes("clause", x.clause(1, 5, 20, true, false));
        CHECK.due("send", x.send(1, 3, 3), 3);
        CHECK.yes("fail", x.fail(1, 4, 1));
        CHECK.due("send", x.send(2, 4, 4), 1);
        CHECK.due("the time", x.count(8), 99 + 180);
        CHECK.groups(x, "3/3/1/197");
        CHECK.due("pass", x.pass(1), 1);
    }

    private static void openedFirst() {
        CHECK.says("the one of them that was opened first is released, and what is ready begins and runs.");
        Engine x = CHECK.engine("a4,9!0", "a4,8!0", "a4,7!0");
        CHECK.due("send", x.send(0, 1, 1), 3);
        CHECK.due("pass", x.pass(1), 0);
        CHECK.due("send", x.send(1, 2, 2), 3);
        CHECK.due("send", x.send(0, 3, 3), 3);
        CHECK.due("pass", x.pass(1), 0);
        CHECK.due("send", x.send(2, 4, 4), 3);
        CHECK.groups(x, "1/1/1/9 2/2/1/9 3/3/1/10 4/4/1/9");
        CHECK.due("pass", x.pass(6), 0);
        CHECK.due("pass to the time at which three are due", x.pass(1), 3);
        CHECK.got(x, 0, "1/1 2/2 4/4");
        CHECK.groups(x, "3/3/1/10");
        CHECK.due("pass", x.pass(1), 1);
        CHECK.got(x, 0, "1/1 2/2 4/4 3/3");
        // A redelivery brings the time beyond both: the one opened first is due later than the other.
        Engine y = CHECK.engine("a4,9!0", "a4,8!0", "!1");
        CHECK.due("send", y.send(0, 1, 1), 3);
        CHECK.due("send", y.send(1, 2, 2), 3);
        CHECK.yes("clause", y.clause(1, 1, 20, true, false));
        CHECK.yes("fail", y.fail(1, 1, 1));
        CHECK.due("send", y.send(2, 3, 3), 1);
        CHECK.groups(y, "1/1/1/9 2/2/1/8");
        CHECK.due("pass", y.pass(1), 2);
        CHECK.got(y, 0, "1/1 2/2");
    }

    private static void releasedForBeingDue() {
        CHECK.says("Answers how many groups were released for being due");
        Engine x = CHECK.engine("a4,5>1", "a2,9!1");
        CHECK.due("pass with no group", x.pass(100), 0);
        CHECK.due("send", x.send(0, 1, 3), 3);
        CHECK.due("pass that releases one", x.pass(5), 1);
        CHECK.due("send", x.send(0, 2, 3), 3);
        CHECK.due("pass that releases one for being due, and one for its size", x.pass(5), 1);
        CHECK.got(x, 1, "3/3");
        CHECK.due("open groups", x.count(10), 0);
    }

    private static void asLongAsThereAreGroupsDue() {
        CHECK.says("as long as there are groups that are due (not after the time)");
        // The first that is released brings the time to what the second one waits for, within one of the n times.
        Engine x = CHECK.engine("a2,1!0", "a2,20!1", "a2,21!2");
        CHECK.yes("clause", x.clause(1, 1, 19, true, false));
        CHECK.yes("fail", x.fail(0, 1, 1));
        for (int r = 0; r <= 2; r++) {
            CHECK.due("send", x.send(r, r, r), 3);
        }
        CHECK.due("pass", x.pass(1), 2);
        CHECK.due("the time", x.count(8), 20);
        CHECK.groups(x, "2/2/1/21");
        CHECK.due("pass", x.pass(1), 1);
        CHECK.due("delivered", x.delivered(0) + x.delivered(1) + x.delivered(2), 3);
    }

    private static void deliveredNumbers() {
        CHECK.says("How many deliveries endpoint d (0 .. 3), or the dead letters (4), got; NONE for another d.");
        Engine x = CHECK.engine("!0!1!1!2!2!2", "!3");
        CHECK.yes("clause", x.clause(1, 0, 0, true, false));
        CHECK.yes("fail", x.fail(3, 5, 1));
        CHECK.due("send", x.send(0, 1, 1), 1);
        for (int i = 0; i < 9; i++) {
            CHECK.due("send", x.send(1, 1, 1), i < 5 ? 5 : 1);
        }
        int[] due = {1, 2, 3, 4, 5};
        for (int d : NUMBERS) {
            CHECK.due("delivered(" + d + ")", x.delivered(d), in(d, 0, 4) ? due[d] : NONE);
        }
    }

    private static void bodyAndKeyOfTheLatestEight() {
        CHECK.says("The body of the delivery that d (0 .. 4) got as the k-th before the latest (k = 0: the latest, up to 7); "
            + "0 when there is no such.");
        for (int d = 0; d <= 4; d++) {
            Engine x = CHECK.engine(d == 4 ? "!0" : "!" + d);
            CHECK.yes("clause", x.clause(1, 0, 0, true, false));
            for (int i = 0; i < 18; i++) {
                CHECK.yes("fail", x.fail(0, d == 4 ? 1 : 0, 1));
                CHECK.due("send", x.send(0, 7 * i + 1, -i - 1), d == 4 ? 5 : 1);
                for (int k = -1; k <= 8; k++) {
                    boolean such = in(k, 0, Math.min(i, 7));
                    CHECK.due("body(" + d + ", " + k + ")", x.body(d, k), such ? 7 * (i - k) + 1 : 0);
                    CHECK.due("key(" + d + ", " + k + ")", x.key(d, k), such ? k - i - 1 : 0);
                }
            }
        }
    }

    private static void bodyAndKeyNumbers() {
        CHECK.says("The key of that delivery; 0 when there is no such.");
        Engine x = CHECK.engine("!0!1!2!3");
        CHECK.yes("clause", x.clause(1, 0, 0, true, false));
        for (int i = 0; i < 9; i++) {
            CHECK.due("send", x.send(0, 5, 6), 1);
        }
        for (int i = 0; i < 9; i++) {
            CHECK.yes("fail", x.fail(0, 1, 1));
            CHECK.due("send", x.send(0, 7, 8), 5);
        }
        for (int n : NUMBERS) {
            CHECK.due("body(" + n + ", 0)", x.body(n, 0), in(n, 0, 3) ? 5 : n == 4 ? 7 : 0);
            CHECK.due("key(" + n + ", 7)", x.key(n, 7), in(n, 0, 3) ? 6 : n == 4 ? 8 : 0);
            CHECK.due("body(3, " + n + ")", x.body(3, n), in(n, 0, 7) ? 5 : 0);
            CHECK.due("key(4, " + n + ")", x.key(4, n), in(n, 0, 7) ? 8 : 0);
            CHECK.due("body(" + n + ", " + n + ")", x.body(n, n), in(n, 0, 3) ? 5 : n == 4 ? 7 : 0);
        }
    }

    private static void groupNumbers() {
        CHECK.says("Of the open group opened as the i-th of those open now (from 0 on): its key for what 0, its sum for 1, "
            + "its members for 2, the time at which it is due for 3; 0 when there is no such group, or for another what.");
        Engine x = CHECK.engine("a3,9");
        for (int what : NUMBERS) {
            CHECK.due("group(0, " + what + ") with no group", x.group(0, what), 0);
        }
        CHECK.due("send", x.send(0, 40, 50), 3);
        CHECK.due("send", x.send(0, 41, 51), 3);
        CHECK.due("send", x.send(0, 42, 51), 3);
        int[][] due = {{50, 40, 1, 9}, {51, 83, 2, 9}};
        for (int n : NUMBERS) {
            for (int i = 0; i <= 1; i++) {
                CHECK.due("group(" + i + ", " + n + ")", x.group(i, n), in(n, 0, 3) ? due[i][n] : 0);
            }
            for (int what = 0; what <= 3; what++) {
                CHECK.due("group(" + n + ", " + what + ")", x.group(n, what), in(n, 0, 1) ? due[n][what] : 0);
            }
        }
        CHECK.due("send that releases the second", x.send(0, 43, 51), 3);
        for (int what = 0; what <= 3; what++) {
            CHECK.due("group(0, " + what + ")", x.group(0, what), due[0][what]);
            CHECK.due("group(1, " + what + ")", x.group(1, what), 0);
        }
        CHECK.due("send that opens one behind the first", x.send(0, 44, 49), 3);
        CHECK.due("pass", x.pass(8), 0);
        CHECK.groups(x, "50/40/1/9 49/44/1/9");
    }

    private static void countNumbers() {
        CHECK.says("NONE for another number.");
        Engine x = CHECK.engine("&1a2,9", "q3", "!0");
        CHECK.yes("clause", x.clause(1, 1, 2, true, false));
        CHECK.yes("fail", x.fail(0, 1, 1));
        CHECK.due("send", x.send(0, 1, 1), 3);
        CHECK.due("send", x.send(1, 1, 1), 3);
        CHECK.due("send", x.send(1, 1, 1), 3);
        CHECK.due("send", x.send(2, 1, 1), 1);
        int[] due = {4, 1, 0, 3, 0, 0, 0, 0, 2, 1, 1, 2, 1};
        for (int what : NUMBERS) {
            CHECK.due("count(" + what + ")", x.count(what), in(what, 0, 12) ? due[what] : NONE);
        }
    }

    private static void everyCountGrows() {
        CHECK.says("A count: 0 the exchanges begun so far, 1 .. 7 those that ended with this outcome so far, 8 the time, "
            + "9 the copies in the queue, 10 the open groups, 11 the exchanges held by steps q, 12 the redeliveries so far");
        Engine x = CHECK.engine("&0fb<9i!0", "a2,9", "q2", "s4(s4(s4(k)))" + "k".repeat(16));
        CHECK.yes("clause", x.clause(2, 1, 3, true, false));
        CHECK.due("COMPLETED", x.send(0, 1, 1), 1);
        CHECK.counts(x, "1 1 0 0 0 0 0 0 0 1 0 0 0");
        CHECK.due("FILTERED", x.send(0, 9, 1), 2);
        CHECK.counts(x, "2 1 1 0 0 0 0 0 0 2 0 0 0");
        CHECK.due("MERGED", x.send(1, 1, 1), 3);
        CHECK.counts(x, "3 1 1 1 0 0 0 0 0 2 1 0 0");
        CHECK.due("MERGED", x.send(2, 1, 1), 3);
        CHECK.counts(x, "4 1 1 2 0 0 0 0 0 2 1 1 0");
        CHECK.due("DUPLICATE", x.send(0, 1, 1), 4);
        CHECK.counts(x, "5 1 1 2 1 0 0 0 0 3 1 1 0");
        CHECK.yes("fail", x.fail(0, 2, 2));
        CHECK.due("DEAD", x.send(0, 1, 2), 5);
        CHECK.counts(x, "6 1 1 2 1 1 0 0 3 4 1 1 1");
        CHECK.yes("fail", x.fail(0, 1, 1));
        CHECK.due("FAILED", x.send(0, 1, 3), 6);
        CHECK.counts(x, "7 1 1 2 1 1 1 0 3 5 1 1 1");
        CHECK.due("work", x.work(), 4);
        CHECK.counts(x, "8 1 1 2 2 1 1 0 3 5 1 1 1");
        CHECK.due("pass", x.pass(6), 1);
        CHECK.counts(x, "9 2 1 2 2 1 1 0 9 5 0 1 1");
        CHECK.due("MERGED", x.send(2, 1, 1), 3);
        CHECK.counts(x, "12 4 1 3 2 1 1 0 9 5 0 0 1");
        CHECK.due("CUT", x.send(3, 1, 1), 7);
        CHECK.counts(x, "97 88 1 3 2 1 1 1 9 5 0 0 1");
    }
}
