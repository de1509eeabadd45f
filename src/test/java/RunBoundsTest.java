/**
 * The bounds that the document names for running, and in promises 5, 6 and 7: 100 attempts in a
 * call, failures, clauses, redeliveries, the time. Each test stands beside the words that it
 * tests, on both sides of the bound.
 */
public final class RunBoundsTest {
    private static final Check CHECK = new Check();
    private static final int LEAST = Integer.MIN_VALUE;
    private static final int MOST = Integer.MAX_VALUE;
    /** As route 3 it makes a step >3 take 20 attempts: one at the step itself and 19 in the route. */
    private static final String NINETEEN = "k".repeat(19);
    private static final String EIGHTY = ">3>3>3>3";

    public static void main(String[] args) {
        endOfTheRoute();
        hundredAttemptsOfSend();
        hundredAttemptsOfWork();
        hundredAttemptsOfPass();
        hundredAttemptsInLists();
        hundredAttemptsInRoutes();
        hundredAttemptsOfParts();
        hundredAttemptsOfReady();
        hundredAttemptsOfWaitingSteps();
        redeliveriesAreAttempts();
        partsThatBeginThen();
        stepsThatDoNotThrow();
        failuresLeft();
        clauseForHalves();
        noClause();
        notMoreThanTheMaximum();
        firstAttemptAtThisPlace();
        delayDoubled();
        atMostSixty();
        handledOrNot();
        readyUntilThereAreNone();
        clauseNumbers();
        fourClauses();
        forgetAll();
        failNumbers();
        failInstead();
        CHECK.end();
    }

    private static Engine engine(String zero, String one, String two) {
        return CHECK.engine(zero, one, two, NINETEEN);
    }

    /** The text for a route below 3 that takes so many attempts. */
    private static String attempts(int n) {
        return ">3".repeat(n / 20) + "k".repeat(n % 20);
    }

    private static void endOfTheRoute() {
        CHECK.says("An exchange that comes to the end of its route (with all routes and lists it is in) ends COMPLETED.");
        Engine x = CHECK.engine("", "s1(>2)?b%1(>2)>2", "?b%1(>3)", "!0");
        CHECK.due("send through a route without a step", x.send(0, 1, 1), 1);
        CHECK.counts(x, "1 1 0 0 0 0 0 0 0 0 0 0 0");
        CHECK.due("send", x.send(1, 1, 1), 1);
        CHECK.due("delivered at the end of each list and route", x.delivered(0), 3);
        CHECK.counts(x, "3 3 0 0 0 0 0 0 0 0 0 0 0");
    }

    private static void hundredAttemptsOfSend() {
        CHECK.says("In each call at most 100 ATTEMPTS at steps are made");
        Engine x = engine(attempts(100), attempts(101), attempts(99) + "!0k");
        CHECK.due("send of 100 attempts", x.send(0, 1, 1), 1);
        CHECK.due("send of 101 attempts", x.send(1, 1, 1), 7);
        CHECK.due("send of 100 attempts in a new call", x.send(0, 1, 1), 1);
        CHECK.due("send whose last but one attempt is the 100th", x.send(2, 1, 1), 7);
        CHECK.got(x, 0, "1/1");
        CHECK.counts(x, "4 2 0 0 0 0 0 2 0 0 0 0 0");
        Engine y = engine(attempts(98) + "!0!1!2", attempts(102), attempts(120));
        CHECK.due("send", y.send(0, 1, 1), 7);
        CHECK.due("the 99th attempt", y.delivered(0), 1);
        CHECK.due("the 100th attempt", y.delivered(1), 1);
        CHECK.due("the 101st attempt", y.delivered(2), 0);
        CHECK.due("send of 102 attempts", y.send(1, 1, 1), 7);
        CHECK.due("send of 120 attempts", y.send(2, 1, 1), 7);
    }

    private static void hundredAttemptsOfWork() {
        CHECK.says("In each call at most 100 ATTEMPTS at steps are made");
        Engine x = engine("&1&2&1", attempts(99) + "!0", attempts(100) + "!1");
        CHECK.due("send", x.send(0, 1, 2), 1);
        CHECK.due("work of 100 attempts", x.work(), 1);
        CHECK.due("work of 101 attempts", x.work(), 7);
        CHECK.due("work of 100 attempts", x.work(), 1);
        CHECK.got(x, 0, "1/1 1/1");
        CHECK.due("delivered", x.delivered(1), 0);
        CHECK.counts(x, "4 3 0 0 0 0 0 1 0 0 0 0 0");
    }

    private static void hundredAttemptsOfPass() {
        CHECK.says("In each call at most 100 ATTEMPTS at steps are made");
        Engine x = engine("a2,1" + attempts(99) + "!0", "a2,1" + attempts(100) + "!1", "a2,1" + attempts(50));
        CHECK.due("send", x.send(0, 1, 2), 3);
        CHECK.due("pass of 100 attempts", x.pass(1), 1);
        CHECK.got(x, 0, "1/1");
        CHECK.due("send", x.send(1, 1, 2), 3);
        CHECK.due("pass of 101 attempts", x.pass(1), 1);
        CHECK.due("delivered", x.delivered(1), 0);
        CHECK.counts(x, "4 1 0 2 0 0 0 1 2 0 0 0 0");
        CHECK.due("send", x.send(2, 1, 1), 3);
        CHECK.due("send", x.send(2, 1, 2), 3);
        CHECK.due("pass of twice 50 attempts", x.pass(1), 2);
        CHECK.counts(x, "8 3 0 4 0 0 0 1 3 0 0 0 0");
        for (int key = 1; key <= 3; key++) {
            CHECK.due("send", x.send(2, 1, key), 3);
        }
        CHECK.due("pass of three times 50 attempts", x.pass(100), 3);
        CHECK.counts(x, "14 5 0 7 0 0 0 2 103 0 0 0 0");
        // The attempts of all of the n times are counted together.
        Engine y = engine("a2,1" + attempts(60), "a2,9" + attempts(40), "a2,20" + "!2");
        CHECK.due("send", y.send(0, 1, 1), 3);
        CHECK.due("send", y.send(1, 1, 1), 3);
        CHECK.due("pass of 60 and 40 attempts", y.pass(9), 2);
        CHECK.counts(y, "4 2 0 2 0 0 0 0 9 0 0 0 0");
        CHECK.due("send", y.send(0, 1, 1), 3);
        CHECK.due("send", y.send(1, 1, 1), 3);
        CHECK.due("send", y.send(2, 1, 1), 3);
        CHECK.due("pass of 60, 40 and one attempt", y.pass(20), 3);
        CHECK.counts(y, "10 4 0 5 0 0 0 1 29 0 0 0 0");
        CHECK.due("delivered", y.delivered(2), 0);
    }

    private static void hundredAttemptsInLists() {
        CHECK.says("(of any exchanges, the steps of inner lists and other routes included, also the step that these stand in)");
        Engine x = engine(EIGHTY + "?b=5(" + "k".repeat(19) + ")", EIGHTY + "?b=5(" + "k".repeat(20) + ")",
            EIGHTY + "?b=0():(" + "k".repeat(20) + ")");
        CHECK.due("send of 80, the step ? and 19", x.send(0, 5, 1), 1);
        CHECK.due("send of 80, the step ? and 20", x.send(1, 5, 1), 7);
        CHECK.due("send of 80, the step ? and the 20 of the second list", x.send(2, 5, 1), 7);
        CHECK.due("send of 80 and the step ?", x.send(1, 6, 1), 1);
        String ninety = ">3>3>3";
        Engine y = CHECK.engine(ninety + "?b=5(?b=5(?b=5(kkkkkkk)))", ninety + "?b=5(?b=5(?b=5(kkkk)))kkk!0",
            ninety + "?b=5(?b=5(?b=5(kkkk)))kk!1", "k".repeat(29));
        CHECK.due("send of 90, three steps ? and 7", y.send(0, 5, 1), 1);
        CHECK.due("send of 90, three steps ?, 4 and 4", y.send(1, 5, 1), 7);
        CHECK.due("send of 90, three steps ?, 4 and 3", y.send(2, 5, 1), 1);
        CHECK.due("delivered", y.delivered(0), 0);
        CHECK.got(y, 1, "5/5");
    }

    private static void hundredAttemptsInRoutes() {
        CHECK.says("(of any exchanges, the steps of inner lists and other routes included, also the step that these stand in)");
        Engine x = CHECK.engine(">1", ">2".repeat(3), ">3".repeat(8), "!0!0!0");
        // The step >1, three steps >2, 24 steps >3 and 72 deliveries.
        CHECK.due("send of 100 attempts", x.send(0, 1, 1), 1);
        CHECK.due("delivered", x.delivered(0), 72);
        Engine y = CHECK.engine("k>1", ">2".repeat(3), ">3".repeat(8), "!0!0!0");
        CHECK.due("send of 101 attempts", y.send(0, 1, 1), 7);
        CHECK.due("delivered", y.delivered(0), 71);
        CHECK.counts(y, "1 0 0 0 0 0 0 1 0 0 0 0 0");
    }

    private static void hundredAttemptsOfParts() {
        CHECK.says("(of any exchanges, the steps of inner lists and other routes included, also the step that these stand in)");
        Engine x = engine(EIGHTY + "s1(" + "k".repeat(19) + ")", EIGHTY + "s1(" + "k".repeat(20) + ")",
            EIGHTY + "s1(" + "k".repeat(20) + ")k");
        CHECK.due("send of 80, the step s and 19", x.send(0, 1, 1), 1);
        CHECK.counts(x, "2 2 0 0 0 0 0 0 0 0 0 0 0");
        CHECK.due("send of which the part is cut", x.send(1, 1, 1), 1);
        CHECK.counts(x, "4 3 0 0 0 0 0 1 0 0 0 0 0");
        CHECK.due("send that is cut behind its part", x.send(2, 1, 1), 7);
        CHECK.counts(x, "6 3 0 0 0 0 0 3 0 0 0 0 0");
        Engine y = CHECK.engine("s4(s4(s4(!0)))!1", "s4(s4(s4(!0)))" + "k".repeat(14) + "!2", "s4(s4(s4(!0)))" + "k".repeat(15) + "!3");
        CHECK.due("send of 1 + 4 + 16 + 64 + 1 attempts", y.send(0, 64, 1), 1);
        CHECK.counts(y, "85 85 0 0 0 0 0 0 0 0 0 0 0");
        CHECK.got(y, 1, "64/1");
        CHECK.due("send of 100 attempts", y.send(1, 64, 1), 1);
        CHECK.due("send of 101 attempts", y.send(2, 64, 1), 7);
        CHECK.got(y, 2, "64/64");
        CHECK.due("delivered", y.delivered(3), 0);
    }

    private static void hundredAttemptsOfReady() {
        CHECK.says("when one more is to be made, the exchange that is to make it ends CUT instead");
        // The last send takes 80 attempts and n, those at >2 and q2, and one for each of the two ready.
        String[] due = {"4 2 0 2 0 0 0 0", "4 1 0 2 0 0 0 1", "4 0 0 2 0 0 0 2"};
        for (int n = 16; n <= 18; n++) {
            Engine x = engine(EIGHTY + "k".repeat(n) + ">2", "", "q2!0");
            CHECK.due("send", x.send(0, 1, 1), 3);
            CHECK.due("send", x.send(0, 2, 1), 3);
            CHECK.counts(x, due[n - 16] + " 0 0 0 0 0");
            CHECK.due("delivered", x.delivered(0), 18 - n);
        }
        // What is ready, and has no step behind it, makes no attempt.
        Engine y = engine(EIGHTY + "k".repeat(18) + ">2", "", "q2");
        CHECK.due("send", y.send(0, 1, 1), 3);
        CHECK.due("send of 100 attempts", y.send(0, 2, 1), 3);
        CHECK.counts(y, "4 2 0 2 0 0 0 0 0 0 0 0 0");
    }

    private static void hundredAttemptsOfWaitingSteps() {
        CHECK.says("when one more is to be made, the exchange that is to make it ends CUT instead");
        Engine x = engine(attempts(99) + ">2", attempts(100) + "a2,9", "q2");
        CHECK.due("send that is cut before it is held", x.send(0, 1, 1), 7);
        CHECK.due("send that is cut before it is gathered", x.send(1, 1, 1), 7);
        CHECK.counts(x, "2 0 0 0 0 0 0 2 0 0 0 0 0");
        Engine y = engine(attempts(98) + ">2", attempts(99) + "a2,9", "q2");
        CHECK.due("send that is held", y.send(0, 1, 1), 3);
        CHECK.due("send that is gathered", y.send(1, 1, 1), 3);
        CHECK.counts(y, "2 0 0 2 0 0 0 0 0 0 1 1 0");
        Engine z = engine(attempts(99) + "&1", attempts(100) + "&1", attempts(100) + "fb=9");
        CHECK.due("send with a copy", z.send(0, 1, 1), 1);
        CHECK.due("send that is cut before its copy", z.send(1, 1, 1), 7);
        CHECK.due("send that is cut before it is filtered", z.send(2, 1, 1), 7);
        CHECK.counts(z, "3 1 0 0 0 0 0 2 0 1 0 0 0");
        Engine w = engine(attempts(99) + ">2", attempts(98) + ">2", "i");
        CHECK.due("send that is cut before its key is kept", w.send(0, 5, 5), 7);
        CHECK.due("send whose key is kept by the 100th attempt", w.send(1, 5, 5), 1);
        CHECK.due("send of the key that was kept", w.send(2, 5, 5), 4);
    }

    private static void redeliveriesAreAttempts() {
        CHECK.says("the step is attempted once more, from its beginning");
        Engine x = engine(attempts(94) + "!0", attempts(95) + "!0", attempts(99) + "!0");
        CHECK.yes("clause", x.clause(1, 5, 0, true, false));
        CHECK.yes("fail", x.fail(0, 5, 1));
        CHECK.due("send of 94 attempts and 6", x.send(0, 1, 1), 1);
        CHECK.due("delivered", x.delivered(0), 1);
        CHECK.yes("fail", x.fail(0, 5, 1));
        CHECK.due("send of 95 attempts and 6", x.send(1, 1, 1), 7);
        CHECK.due("delivered", x.delivered(0), 1);
        CHECK.due("dead letters", x.delivered(4), 0);
        CHECK.due("send: all five failures were taken away", x.send(2, 1, 1), 1);
        x.forget();
        CHECK.yes("clause", x.clause(1, 0, 0, true, false));
        CHECK.yes("fail", x.fail(0, 1, 1));
        CHECK.due("send whose 100th attempt throws, and is the last one", x.send(2, 1, 1), 5);
    }

    private static void partsThatBeginThen() {
        CHECK.says("(each part of an s, too, that begins then)");
        // Of the four parts so many find an attempt left.
        String[] due = {"5 5 0 0 0 0 0 0", "5 4 0 0 0 0 0 1", "5 3 0 0 0 0 0 2", "5 2 0 0 0 0 0 3", "5 1 0 0 0 0 0 4"};
        for (int n = 15; n <= 19; n++) {
            Engine x = engine(EIGHTY + "k".repeat(n) + "s4(!0)", "", "");
            CHECK.due("send", x.send(0, 7, 1), 1);
            CHECK.counts(x, due[n - 15] + " 0 0 0 0 0");
            CHECK.due("delivered", x.delivered(0), 19 - n);
        }
        Engine y = engine(attempts(100) + "s4(!0)", "", "");
        CHECK.due("send that is cut before its parts begin", y.send(0, 7, 1), 7);
        CHECK.counts(y, "1 0 0 0 0 0 0 1 0 0 0 0 0");
        // A part is cut in its second step; those behind it begin and are cut in their first one.
        Engine z = engine(attempts(96) + "s3(!0!1)", "", "");
        CHECK.due("send", z.send(0, 7, 1), 1);
        CHECK.counts(z, "4 2 0 0 0 0 0 2 0 0 0 0 0");
        CHECK.due("delivered", z.delivered(0), 2);
        CHECK.due("delivered", z.delivered(1), 1);
    }

    private static void stepsThatDoNotThrow() {
        CHECK.says("A step that does not throw is attempted once.");
        Engine x = CHECK.engine("+1!0r&1s1(+1)?b%1(+1)");
        CHECK.yes("clause", x.clause(1, 5, 20, true, false));
        CHECK.due("send", x.send(0, 4, 1), 1);
        CHECK.got(x, 0, "5/1 5/1");
        CHECK.counts(x, "2 2 0 0 0 0 0 0 0 1 0 0 0");
    }

    private static void failuresLeft() {
        CHECK.says("A DELIVERY to an endpoint with FAILURES left takes one away and throws the number that goes with them; "
            + "otherwise the endpoint gets the body and the key.");
        for (int failures = 0; failures <= 9; failures++) {
            Engine x = CHECK.engine("!0", "!1");
            CHECK.yes("fail", x.fail(0, failures, 1));
            for (int i = 0; i < failures; i++) {
                CHECK.due("send with failures left", x.send(0, 1, 2), 6);
                CHECK.due("delivered", x.delivered(0), 0);
                CHECK.due("send to another endpoint", x.send(1, 1, 2), 1);
            }
            CHECK.due("send with no failure left", x.send(0, 1, 2), 1);
            CHECK.due("send with no failure left", x.send(0, 3, 4), 1);
            CHECK.got(x, 0, "1/2 3/4");
            CHECK.due("delivered", x.delivered(1), failures);
        }
    }

    private static void clauseForHalves() {
        CHECK.says("the first CLAUSE in their order counts whose number is t, or t / 2, or t / 2 / 2, "
            + "and so on down to 1 (rounded down).");
        String[] caughtBy = {"", "1", "12", "13", "124", "125", "136", "137"};
        for (int t = 1; t <= 7; t++) {
            for (int c = 1; c <= 7; c++) {
                Engine x = CHECK.engine("!0");
                CHECK.yes("clause", x.clause(c, 0, 0, true, false));
                CHECK.yes("fail", x.fail(0, 1, t));
                boolean caught = caughtBy[t].indexOf('0' + c) >= 0;
                CHECK.due("send that throws " + t + " with a clause for " + c, x.send(0, 1, 1), caught ? 5 : 6);
            }
        }
        // The first in their order, whether it is nearer to t or not, and be it the fourth.
        Engine y = CHECK.engine("!0");
        for (int t : new int[] {4, 5, 3, 7}) {
            CHECK.yes("clause", y.clause(t, 0, 0, t == 7, false));
        }
        CHECK.yes("fail", y.fail(0, 1, 7));
        CHECK.due("send: the clause for 3 is before the one for 7", y.send(0, 1, 1), 6);
        y.forget();
        for (int t : new int[] {4, 5, 2, 7}) {
            CHECK.yes("clause", y.clause(t, 0, 0, t == 7, false));
        }
        CHECK.yes("fail", y.fail(0, 1, 7));
        CHECK.due("send: only the fourth clause counts", y.send(0, 1, 1), 5);
    }

    private static void noClause() {
        CHECK.says("If there is none, the exchange ends FAILED.");
        Engine x = CHECK.engine("!0!1");
        CHECK.yes("fail", x.fail(0, 2, 1));
        CHECK.due("send", x.send(0, 1, 1), 6);
        CHECK.yes("clause", x.clause(2, 5, 20, true, true));
        CHECK.due("send", x.send(0, 1, 1), 6);
        CHECK.due("send with no failure left", x.send(0, 1, 1), 1);
        CHECK.counts(x, "3 1 0 0 0 0 2 0 0 0 0 0 0");
        CHECK.due("dead letters", x.delivered(4), 0);
    }

    private static void notMoreThanTheMaximum() {
        CHECK.says("If n is not more than the clause's MAXIMUM, this is a REDELIVERY");
        for (int maximum = 0; maximum <= 5; maximum++) {
            Engine x = CHECK.engine("!0");
            CHECK.yes("clause", x.clause(1, maximum, 0, true, false));
            CHECK.yes("fail", x.fail(0, maximum, 1));
            CHECK.due("send whose last redelivery arrives", x.send(0, 1, 1), 1);
            CHECK.due("redeliveries", x.count(12), maximum);
            CHECK.yes("fail", x.fail(0, maximum + 1, 1));
            CHECK.due("send whose last redelivery throws", x.send(0, 2, 1), 5);
            CHECK.due("redeliveries", x.count(12), 2 * maximum);
            CHECK.due("send with no failure left", x.send(0, 3, 1), 1);
            CHECK.got(x, 0, "1/1 3/1");
            CHECK.got(x, 4, "2/1");
        }
    }

    private static void firstAttemptAtThisPlace() {
        CHECK.says("(n = 1 for the first one of this exchange at this place in its run)");
        Engine x = CHECK.engine(">1>1!0", "!0");
        CHECK.yes("clause", x.clause(1, 1, 7, true, false));
        CHECK.yes("fail", x.fail(0, 1, 1));
        CHECK.due("send", x.send(0, 1, 1), 1);
        CHECK.yes("fail", x.fail(0, 2, 1));
        CHECK.due("send whose second attempt throws too", x.send(0, 1, 1), 5);
        Engine y = CHECK.engine("!0!1!2!3", "s4(r)");
        CHECK.yes("clause", y.clause(1, 1, 7, true, false));
        for (int d = 0; d <= 3; d++) {
            CHECK.yes("fail", y.fail(d, 1, 1));
        }
        CHECK.due("send whose four steps throw once each", y.send(0, 1, 1), 1);
        CHECK.counts(y, "1 1 0 0 0 0 0 0 28 0 0 0 4");
        CHECK.yes("fail", y.fail(0, 6, 1));
        CHECK.due("send of which three parts throw twice each", y.send(1, 8, 1), 1);
        CHECK.counts(y, "6 3 0 0 0 3 0 0 49 0 0 0 7");
    }

    /** By how much the time grows at redelivery n of a clause with this delay. */
    private static int growth(int delay, int n) {
        Engine x = CHECK.engine("!0");
        CHECK.yes("clause", x.clause(1, 5, delay, true, false));
        CHECK.yes("fail", x.fail(0, n - 1, 1));
        CHECK.due("send", x.send(0, 1, 1), 1);
        int before = x.count(8);
        Engine y = CHECK.engine("!0");
        CHECK.yes("clause", y.clause(1, 5, delay, true, false));
        CHECK.yes("fail", y.fail(0, n, 1));
        CHECK.due("send", y.send(0, 1, 1), 1);
        CHECK.due("redeliveries", y.count(12), n);
        return y.count(8) - before;
    }

    private static void delayDoubled() {
        CHECK.says("the time grows by the clause's delay, doubled n - 1 times");
        int[][] due = {{0, 0, 0, 0, 0}, {1, 2, 4, 8, 16}, {2, 4, 8, 16, 32}, {3, 6, 12, 24, 48}};
        for (int delay = 0; delay <= 3; delay++) {
            for (int n = 1; n <= 5; n++) {
                CHECK.due("delay " + delay + " at redelivery " + n, growth(delay, n), due[delay][n - 1]);
            }
        }
    }

    private static void atMostSixty() {
        CHECK.says("but by at most 60");
        int[][] due = {
            {4, 8, 16, 32, 60}, {7, 14, 28, 56, 60}, {8, 16, 32, 60, 60}, {14, 28, 56, 60, 60}, {15, 30, 60, 60, 60},
            {16, 32, 60, 60, 60}, {19, 38, 60, 60, 60}, {20, 40, 60, 60, 60},
        };
        for (int[] delays : due) {
            for (int n = 1; n <= 5; n++) {
                CHECK.due("delay " + delays[0] + " at redelivery " + n, growth(delays[0], n), delays[n - 1]);
            }
        }
    }

    private static void handledOrNot() {
        CHECK.says("if the clause is HANDLED, the dead letters (endpoint 4) get the exchange's key and its body, or its original, "
            + "as the clause says, and the exchange ends DEAD; if not, it ends FAILED.");
        for (int which = 0; which < 4; which++) {
            boolean handled = (which & 1) == 1;
            boolean original = which >= 2;
            Engine x = CHECK.engine("+5k*2!0!1");
            CHECK.yes("clause", x.clause(1, 0, 0, handled, original));
            CHECK.yes("fail", x.fail(0, 1, 1));
            CHECK.due("send", x.send(0, 3, 9), handled ? 5 : 6);
            CHECK.got(x, 4, !handled ? "" : original ? "3/8" : "16/8");
            CHECK.due("delivered", x.delivered(0) + x.delivered(1), 0);
        }
    }

    private static void readyUntilThereAreNone() {
        CHECK.says("those that became ready begin and run, one after the other, in the order in which they became ready, until there are none.");
        // Sixteen parts come to q4, so that four times four become ready in one call.
        Engine x = CHECK.engine("s4(s4(>1))!3", "q4!0");
        CHECK.due("send", x.send(0, 160, 7), 1);
        CHECK.due("delivered", x.delivered(0), 16);
        CHECK.counts(x, "37 21 0 16 0 0 0 0 0 0 0 0 0");
        // What is ready makes others ready, in a row of twenty steps.
        Engine y = CHECK.engine("s2(>1)", "q2".repeat(19) + "!0");
        CHECK.due("send", y.send(0, 9, 7), 1);
        CHECK.got(y, 0, "4/7 5/7");
        CHECK.counts(y, "41 3 0 38 0 0 0 0 0 0 0 0 0");
    }

    private static void clauseNumbers() {
        CHECK.says("for the number t (1 .. 7), with a maximum (0 .. 5), a delay (0 .. 20), whether it is handled, "
            + "and whether the dead letters get the original. False, changing nothing, when a number is not as said or 4 clauses are there.");
        for (int n : new int[] {LEAST, -7, -1, 0, 1, 2, 3, 4, 5, 6, 7, 8, 9, 19, 20, 21, 22, 100, MOST}) {
            Engine x = CHECK.engine("!0");
            CHECK.due("clause for " + n, x.clause(n, 0, 0, true, false) ? 1 : 0, n >= 1 && n <= 7 ? 1 : 0);
            CHECK.yes("fail", x.fail(0, 1, n >= 1 && n <= 7 ? n : 1));
            CHECK.due("send", x.send(0, 1, 1), n >= 1 && n <= 7 ? 5 : 6);
            Engine y = CHECK.engine("!0");
            CHECK.due("maximum " + n, y.clause(1, n, 0, true, false) ? 1 : 0, n >= 0 && n <= 5 ? 1 : 0);
            CHECK.yes("fail", y.fail(0, 9, 1));
            CHECK.due("send", y.send(0, 1, 1), n >= 0 && n <= 5 ? 5 : 6);
            CHECK.due("redeliveries", y.count(12), n >= 0 && n <= 5 ? n : 0);
            Engine z = CHECK.engine("!0");
            CHECK.due("delay " + n, z.clause(1, 1, n, true, false) ? 1 : 0, n >= 0 && n <= 20 ? 1 : 0);
            CHECK.yes("fail", z.fail(0, 1, 1));
            CHECK.due("send", z.send(0, 1, 1), n >= 0 && n <= 20 ? 1 : 6);
            CHECK.due("the time", z.count(8), n >= 0 && n <= 20 ? n : 0);
        }
    }

    private static void fourClauses() {
        CHECK.says("False, changing nothing, when a number is not as said or 4 clauses are there.");
        Engine x = CHECK.engine("!0");
        for (int t : new int[] {7, 6, 5}) {
            CHECK.yes("clause", x.clause(t, 0, 0, false, false));
        }
        CHECK.no("clause that is not as said", x.clause(8, 0, 0, false, false));
        CHECK.yes("clause as the fourth", x.clause(4, 1, 3, true, false));
        CHECK.no("clause as the fifth", x.clause(1, 0, 0, true, false));
        CHECK.no("clause as the fifth", x.clause(4, 0, 0, false, true));
        CHECK.yes("fail", x.fail(0, 2, 4));
        CHECK.due("send that the fourth catches", x.send(0, 1, 2), 5);
        CHECK.counts(x, "1 0 0 0 0 1 0 0 3 0 0 0 1");
        CHECK.yes("fail", x.fail(0, 1, 3));
        CHECK.due("send that the fifth would have caught", x.send(0, 1, 2), 6);
        for (int t : new int[] {7, 6, 5}) {
            CHECK.yes("fail", x.fail(0, 1, t));
            CHECK.due("send that one of the first three catches", x.send(0, 1, 2), 6);
        }
        CHECK.got(x, 4, "1/2");
    }

    private static void forgetAll() {
        CHECK.says("Takes all clauses away.");
        for (int clauses = 0; clauses <= 4; clauses++) {
            Engine x = CHECK.engine("!0");
            for (int i = 0; i < clauses; i++) {
                CHECK.yes("clause", x.clause(1, 0, 0, true, false));
            }
            x.forget();
            CHECK.yes("fail", x.fail(0, 2, 1));
            CHECK.due("send without a clause", x.send(0, 1, 1), 6);
            for (int i = 0; i < 4; i++) {
                CHECK.yes("clause after forget()", x.clause(i == 0 ? 1 : 7, 0, 0, true, false));
            }
            CHECK.no("clause as the fifth", x.clause(1, 0, 0, true, false));
            CHECK.due("send", x.send(0, 1, 1), 5);
            CHECK.due("send: the failures are not forgotten, but used up", x.send(0, 1, 1), 1);
        }
    }

    private static void failNumbers() {
        CHECK.says("Endpoint d (0 .. 3) has so many failures left (0 .. 9) that throw t (1 .. 7), instead of those it had. "
            + "False, changing nothing, when a number is not as said.");
        for (int n : new int[] {LEAST, -10, -1, 0, 1, 2, 3, 4, 5, 6, 7, 8, 9, 10, 11, 100, MOST}) {
            Engine x = CHECK.engine("!0", "!1", "!2", "!3");
            CHECK.due("fail(" + n + ", 1, 1)", x.fail(n, 1, 1) ? 1 : 0, n >= 0 && n <= 3 ? 1 : 0);
            for (int d = 0; d <= 3; d++) {
                CHECK.due("send to " + d, x.send(d, 1, 1), d == n ? 6 : 1);
            }
            Engine y = CHECK.engine("!0");
            CHECK.yes("fail", y.fail(0, 1, 1));
            CHECK.due("fail(0, " + n + ", 1)", y.fail(0, n, 1) ? 1 : 0, n >= 0 && n <= 9 ? 1 : 0);
            int left = n >= 0 && n <= 9 ? n : 1;
            for (int i = 0; i < left; i++) {
                CHECK.due("send with failures left", y.send(0, 1, 1), 6);
            }
            CHECK.due("send with no failure left", y.send(0, 1, 1), 1);
            Engine z = CHECK.engine("!0");
            CHECK.yes("fail", z.fail(0, 1, 2));
            CHECK.due("fail(0, 1, " + n + ")", z.fail(0, 1, n) ? 1 : 0, n >= 1 && n <= 7 ? 1 : 0);
            CHECK.yes("clause", z.clause(n >= 1 && n <= 7 ? n : 2, 0, 0, true, false));
            CHECK.due("send", z.send(0, 1, 1), 5);
        }
        Engine w = CHECK.engine("!0");
        CHECK.no("fail of the dead letters", w.fail(4, 9, 1));
        CHECK.yes("fail", w.fail(0, 1, 1));
        CHECK.yes("clause", w.clause(1, 0, 0, true, false));
        CHECK.due("send", w.send(0, 1, 1), 5);
        CHECK.got(w, 4, "1/1");
    }

    private static void failInstead() {
        CHECK.says("instead of those it had.");
        Engine x = CHECK.engine("!0");
        CHECK.yes("clause", x.clause(5, 0, 0, true, false));
        CHECK.yes("fail", x.fail(0, 9, 1));
        CHECK.due("send", x.send(0, 1, 1), 6);
        CHECK.yes("fail of fewer with another number", x.fail(0, 1, 5));
        CHECK.due("send", x.send(0, 1, 1), 5);
        CHECK.due("send", x.send(0, 1, 1), 1);
        CHECK.yes("fail", x.fail(0, 9, 1));
        CHECK.yes("fail of none", x.fail(0, 0, 1));
        CHECK.due("send", x.send(0, 1, 1), 1);
        CHECK.yes("fail", x.fail(0, 1, 1));
        CHECK.yes("fail of more", x.fail(0, 9, 5));
        for (int i = 0; i < 9; i++) {
            CHECK.due("send", x.send(0, 1, 1), 5);
        }
        CHECK.due("send", x.send(0, 1, 1), 1);
    }
}
