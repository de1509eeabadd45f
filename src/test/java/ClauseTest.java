/** Promises 5, 6 and 7: clause, forget and fail, with redeliveries and the dead letters. */
public final class ClauseTest {
    private static final Check CHECK = new Check();

    public static void main(String[] args) {
        wrongClauses();
        atMostFour();
        forget();
        wrongFailures();
        failures();
        whichClauseCounts();
        maximum();
        delay();
        growthAtMostSixty();
        deadLetters();
        deadLettersOfParts();
        deliveriesFromTheBeginning();
        attemptsAreCountedAnew();
        cutRedelivery();
        fullStepThrowsAgain();
        CHECK.end();
    }

    private static void wrongClauses() {
        Engine x = CHECK.engine("!0");
        int[][] wrong = {
            {0, 1, 1}, {8, 1, 1}, {-1, 1, 1}, {Integer.MAX_VALUE, 1, 1}, {1, -1, 1}, {1, 6, 1}, {1, 1, -1}, {1, 1, 21},
            {1, Integer.MIN_VALUE, 1}, {1, 1, Integer.MAX_VALUE},
        };
        for (int[] w : wrong) {
            CHECK.no("clause(" + w[0] + ", " + w[1] + ", " + w[2] + ")", x.clause(w[0], w[1], w[2], true, true));
        }
        CHECK.yes("fail", x.fail(0, 1, 1));
        CHECK.due("send without a clause", x.send(0, 1, 1), 6);
        CHECK.yes("clause", x.clause(7, 0, 0, false, false));
        CHECK.yes("clause", x.clause(1, 5, 20, true, true));
        CHECK.yes("fail", x.fail(0, 5, 3));
        CHECK.due("send", x.send(0, 1, 1), 1);
        CHECK.due("redeliveries", x.count(12), 5);
    }

    private static void atMostFour() {
        Engine x = CHECK.engine("!0");
        for (int t = 4; t <= 7; t++) {
            CHECK.yes("clause", x.clause(t, 0, 0, false, false));
        }
        CHECK.no("clause as the fifth", x.clause(1, 0, 0, true, false));
        CHECK.yes("fail", x.fail(0, 1, 3));
        CHECK.due("send", x.send(0, 1, 1), 6);
        CHECK.due("dead letters", x.delivered(4), 0);
        x.forget();
        for (int i = 0; i < 4; i++) {
            CHECK.yes("clause after forget", x.clause(3, 0, 0, true, false));
        }
        CHECK.no("clause as the fifth", x.clause(1, 0, 0, true, false));
        CHECK.yes("fail", x.fail(0, 1, 3));
        CHECK.due("send", x.send(0, 1, 1), 5);
    }

    private static void forget() {
        Engine x = CHECK.engine("!0");
        x.forget();
        CHECK.yes("clause", x.clause(1, 5, 1, true, false));
        CHECK.yes("clause", x.clause(2, 5, 1, true, false));
        CHECK.yes("fail", x.fail(0, 3, 2));
        x.forget();
        CHECK.due("send", x.send(0, 1, 1), 6);
        CHECK.yes("clause", x.clause(2, 1, 4, true, false));
        CHECK.due("send", x.send(0, 1, 1), 5);
        CHECK.counts(x, "2 0 0 0 0 1 1 0 4 0 0 0 1");
        CHECK.due("send with no failures left", x.send(0, 1, 1), 1);
    }

    private static void wrongFailures() {
        Engine x = CHECK.engine("!0!3");
        CHECK.yes("fail", x.fail(0, 1, 2));
        int[][] wrong = {
            {-1, 0, 1}, {4, 0, 1}, {0, -1, 1}, {0, 10, 1}, {0, 0, 0}, {0, 0, 8}, {0, 9, -1},
            {Integer.MIN_VALUE, 0, 1}, {Integer.MAX_VALUE, 0, 1}, {0, Integer.MAX_VALUE, 1},
        };
        for (int[] w : wrong) {
            CHECK.no("fail(" + w[0] + ", " + w[1] + ", " + w[2] + ")", x.fail(w[0], w[1], w[2]));
        }
        CHECK.yes("clause", x.clause(2, 0, 0, true, false));
        CHECK.due("send with the failure of before", x.send(0, 1, 1), 5);
        CHECK.yes("fail", x.fail(3, 1, 7));
        CHECK.due("send", x.send(0, 1, 1), 6);
        CHECK.due("send", x.send(0, 1, 1), 1);
    }

    private static void failures() {
        Engine x = CHECK.engine("!0", "!1");
        CHECK.yes("fail", x.fail(0, 9, 1));
        for (int i = 0; i < 9; i++) {
            CHECK.due("send", x.send(0, 1, 1), 6);
            CHECK.due("send to another endpoint", x.send(1, 1, 1), 1);
        }
        CHECK.due("send", x.send(0, 1, 1), 1);
        CHECK.yes("fail", x.fail(0, 3, 1));
        CHECK.yes("fail", x.fail(0, 1, 1));
        CHECK.due("send", x.send(0, 1, 1), 6);
        CHECK.due("send with one failure instead of three", x.send(0, 1, 1), 1);
        CHECK.yes("fail", x.fail(0, 3, 1));
        CHECK.yes("fail", x.fail(0, 0, 1));
        CHECK.due("send", x.send(0, 1, 1), 1);
    }

    /** Each number is caught by the clauses of itself and its halves, and by no other. */
    private static void whichClauseCounts() {
        for (int c = 1; c <= 7; c++) {
            for (int t = 1; t <= 7; t++) {
                Engine x = CHECK.engine("!0");
                CHECK.yes("clause", x.clause(c, 0, 0, true, false));
                CHECK.yes("fail", x.fail(0, 1, t));
                boolean counts = c == t || c == t / 2 || c == t / 2 / 2;
                CHECK.due("send that throws " + t + " with a clause for " + c, x.send(0, 1, 1), counts ? 5 : 6);
            }
        }
        Engine y = CHECK.engine("!0");
        CHECK.yes("clause", y.clause(5, 0, 0, true, false));
        CHECK.yes("clause", y.clause(1, 0, 0, false, false));
        CHECK.yes("clause", y.clause(6, 0, 0, true, false));
        CHECK.yes("fail", y.fail(0, 1, 6));
        CHECK.due("send: the clause for 1 is before the one for 6", y.send(0, 1, 1), 6);
        CHECK.yes("fail", y.fail(0, 1, 5));
        CHECK.due("send: the clause for 5 is before the one for 1", y.send(0, 1, 1), 5);
    }

    private static void maximum() {
        for (int maximum = 0; maximum <= 5; maximum++) {
            Engine x = CHECK.engine("!0");
            CHECK.yes("clause", x.clause(1, maximum, 0, true, false));
            CHECK.yes("fail", x.fail(0, maximum, 1));
            CHECK.due("send", x.send(0, 1, 1), 1);
            CHECK.due("redeliveries", x.count(12), maximum);
            CHECK.yes("fail", x.fail(0, maximum + 1, 1));
            CHECK.due("send", x.send(0, 1, 1), 5);
            CHECK.due("redeliveries", x.count(12), 2 * maximum);
            CHECK.due("delivered", x.delivered(0), 1);
        }
    }

    private static void delay() {
        int[] times = {0, 3, 9, 21, 45, 93};
        for (int n = 0; n <= 5; n++) {
            Engine x = CHECK.engine("!0");
            CHECK.yes("clause", x.clause(1, 5, 3, true, false));
            CHECK.yes("fail", x.fail(0, n, 1));
            CHECK.due("send", x.send(0, 1, 1), 1);
            CHECK.due("the time after " + n + " redeliveries", x.count(8), times[n]);
        }
    }

    private static void growthAtMostSixty() {
        Engine x = CHECK.engine("!0");
        CHECK.yes("clause", x.clause(1, 5, 20, true, false));
        CHECK.yes("fail", x.fail(0, 9, 1));
        CHECK.due("send", x.send(0, 1, 1), 5);
        CHECK.due("the time", x.count(8), 20 + 40 + 60 + 60 + 60);
        CHECK.due("send", x.send(0, 1, 1), 1);
        CHECK.due("the time", x.count(8), 240 + 20 + 40 + 60);
        Engine y = CHECK.engine("!0");
        CHECK.yes("clause", y.clause(1, 5, 4, true, false));
        CHECK.yes("fail", y.fail(0, 5, 1));
        CHECK.due("send", y.send(0, 1, 1), 1);
        CHECK.due("the time", y.count(8), 4 + 8 + 16 + 32 + 60);
    }

    private static void deadLetters() {
        Engine x = CHECK.engine("+5k*2!0");
        CHECK.yes("clause", x.clause(2, 0, 0, true, false));
        CHECK.yes("clause", x.clause(3, 0, 0, true, true));
        CHECK.yes("clause", x.clause(1, 0, 0, false, true));
        CHECK.yes("fail", x.fail(0, 1, 2));
        CHECK.due("send", x.send(0, 1, 9), 5);
        CHECK.yes("fail", x.fail(0, 1, 3));
        CHECK.due("send", x.send(0, 2, 9), 5);
        CHECK.yes("fail", x.fail(0, 1, 1));
        CHECK.due("send with a clause that is not handled", x.send(0, 3, 9), 6);
        CHECK.got(x, 4, "12/6 2/7");
        CHECK.counts(x, "3 0 0 0 0 2 1 0 0 0 0 0 0");
    }

    private static void deadLettersOfParts() {
        Engine x = CHECK.engine("+1s2(*3!0)!1");
        CHECK.yes("clause", x.clause(1, 0, 0, true, true));
        CHECK.yes("fail", x.fail(0, 1, 1));
        CHECK.due("send", x.send(0, 10, 9), 1);
        CHECK.got(x, 4, "5/9");
        CHECK.got(x, 0, "18/9");
        CHECK.got(x, 1, "18/9");
        CHECK.yes("fail", x.fail(0, 2, 1));
        CHECK.yes("fail", x.fail(1, 1, 1));
        CHECK.due("send", x.send(0, 10, 9), 5);
        CHECK.got(x, 4, "5/9 5/9 6/9 10/9");
        x.forget();
        CHECK.yes("fail", x.fail(0, 1, 1));
        CHECK.due("send of which a part fails", x.send(0, 10, 9), 1);
        CHECK.counts(x, "9 4 0 0 0 4 1 0 0 0 0 0 0");
    }

    private static void deliveriesFromTheBeginning() {
        Engine x = CHECK.engine("r");
        CHECK.yes("clause", x.clause(1, 2, 1, true, false));
        CHECK.yes("fail", x.fail(2, 2, 1));
        CHECK.due("send", x.send(0, 3, 7), 1);
        CHECK.got(x, 0, "3/7 3/7 3/7");
        CHECK.got(x, 1, "3/7 3/7 3/7");
        CHECK.got(x, 2, "3/7");
        CHECK.due("delivered", x.delivered(3), 0);
        CHECK.due("the time", x.count(8), 3);
        CHECK.yes("fail", x.fail(0, 1, 2));
        CHECK.yes("fail", x.fail(1, 1, 3));
        CHECK.due("send", x.send(0, 4, 3), 1);
        CHECK.due("redeliveries", x.count(12), 4);
        CHECK.due("the time", x.count(8), 6);
    }

    private static void attemptsAreCountedAnew() {
        Engine x = CHECK.engine(">1>1!0", "!0");
        CHECK.yes("clause", x.clause(1, 1, 7, true, false));
        CHECK.yes("fail", x.fail(0, 1, 1));
        CHECK.due("send", x.send(0, 1, 1), 1);
        CHECK.due("the time", x.count(8), 7);
        Engine y = CHECK.engine("!0!1!2");
        CHECK.yes("clause", y.clause(1, 1, 7, true, false));
        for (int d = 0; d < 3; d++) {
            CHECK.yes("fail", y.fail(d, 1, 1));
        }
        CHECK.due("send", y.send(0, 1, 1), 1);
        CHECK.counts(y, "1 1 0 0 0 0 0 0 21 0 0 0 3");
        // A throw of another number is an attempt at the same step all the same.
        Engine z = CHECK.engine("r");
        CHECK.yes("clause", z.clause(4, 2, 5, true, false));
        CHECK.yes("clause", z.clause(1, 1, 9, true, false));
        CHECK.yes("fail", z.fail(0, 1, 4));
        CHECK.yes("fail", z.fail(1, 1, 3));
        CHECK.due("send", z.send(0, 1, 3), 5);
        CHECK.counts(z, "1 0 0 0 0 1 0 0 5 0 0 0 1");
    }

    private static void cutRedelivery() {
        Engine x = CHECK.engine(">3>3>3>3kkkkkkkkkkkkkkk!0", "", "", "kkkkkkkkkkkkkkkkkkkk");
        CHECK.yes("clause", x.clause(1, 5, 2, true, false));
        CHECK.due("send of 100 attempts", x.send(0, 1, 1), 1);
        CHECK.yes("fail", x.fail(0, 1, 1));
        CHECK.due("send whose redelivery would be the 101st", x.send(0, 1, 1), 7);
        CHECK.counts(x, "2 1 0 0 0 0 0 1 2 0 0 0 1");
        CHECK.due("delivered", x.delivered(0), 1);
        CHECK.due("dead letters", x.delivered(4), 0);
        CHECK.due("send with the failure gone", x.send(0, 1, 1), 1);
    }

    private static void fullStepThrowsAgain() {
        Engine x = CHECK.engine("a2,50!0", "&0");
        CHECK.yes("clause", x.clause(5, 2, 4, false, false));
        CHECK.yes("clause", x.clause(6, 1, 1, true, false));
        for (int key = 1; key <= 3; key++) {
            CHECK.due("send", x.send(0, key, key), 3);
        }
        CHECK.due("send with three groups open", x.send(0, 4, 4), 6);
        CHECK.counts(x, "4 0 0 3 0 0 1 0 12 0 3 0 2");
        for (int i = 0; i < 8; i++) {
            CHECK.due("send", x.send(1, i, i), 1);
        }
        CHECK.due("send with a full queue", x.send(1, 8, 9), 5);
        CHECK.counts(x, "13 8 0 3 0 1 1 0 13 8 3 0 3");
        CHECK.got(x, 4, "8/9");
    }
}
