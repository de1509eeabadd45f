/** Promises 9, 10 and 14: work, pass and group, with the queue, the groups and what steps hold. */
public final class WaitTest {
    private static final Check CHECK = new Check();

    public static void main(String[] args) {
        workInOrder();
        workLeavesFirst();
        wrongPasses();
        passGrowsTheTime();
        groupBySize();
        groupByTime();
        groupsInTheirOrder();
        groupsOfOneStep();
        groupsOfTwoSteps();
        groupWrongArguments();
        sumsWrap();
        releasedBehindTheStep();
        releasesWithinOneTick();
        timeThatRunsAhead();
        heldInOrder();
        heldFromManyWays();
        readyInTheirOrder();
        readyAreCut();
        passHasHundredAttempts();
        eachCallHasHundredAttempts();
        CHECK.end();
    }

    private static void workInOrder() {
        Engine x = CHECK.engine("&1&2&0", "+1!1", "fb>5!2");
        CHECK.due("work", x.work(), -1);
        CHECK.counts(x, "0 0 0 0 0 0 0 0 0 0 0 0 0");
        CHECK.due("send", x.send(0, 4, 5), 1);
        CHECK.counts(x, "1 1 0 0 0 0 0 0 0 3 0 0 0");
        CHECK.due("work", x.work(), 1);
        CHECK.got(x, 1, "5/5");
        CHECK.due("work", x.work(), 2);
        CHECK.counts(x, "3 2 1 0 0 0 0 0 0 1 0 0 0");
        CHECK.due("work", x.work(), 1);
        CHECK.counts(x, "4 3 1 0 0 0 0 0 0 3 0 0 0");
    }

    private static void workLeavesFirst() {
        Engine x = CHECK.engine("+1!0&0", "&0");
        for (int i = 0; i < 8; i++) {
            CHECK.due("send", x.send(1, 10 * i, i), 1);
        }
        for (int i = 0; i < 20; i++) {
            CHECK.due("work", x.work(), 1);
            CHECK.due("count", x.count(9), 8);
            CHECK.due("body", x.body(0, 0), 10 * (i % 8) + i / 8 + 1);
            CHECK.due("key", x.key(0, 0), i % 8);
        }
        Engine y = CHECK.engine("+3&1", "k!0");
        CHECK.yes("clause", y.clause(1, 0, 0, true, true));
        CHECK.due("send", y.send(0, 1, 2), 1);
        CHECK.yes("fail", y.fail(0, 1, 1));
        CHECK.due("work", y.work(), 5);
        CHECK.got(y, 4, "4/4");
        CHECK.due("work", y.work(), -1);
    }

    private static void wrongPasses() {
        Engine x = CHECK.engine("a2,1!0");
        CHECK.due("send", x.send(0, 1, 1), 3);
        for (int n : new int[] {0, -1, 101, Integer.MIN_VALUE, Integer.MAX_VALUE}) {
            CHECK.due("pass(" + n + ")", x.pass(n), -1);
        }
        CHECK.counts(x, "1 0 0 1 0 0 0 0 0 0 1 0 0");
    }

    private static void passGrowsTheTime() {
        Engine x = new Engine();
        CHECK.due("pass", x.pass(1), 0);
        CHECK.due("pass", x.pass(100), 0);
        CHECK.due("the time", x.count(8), 101);
    }

    private static void groupBySize() {
        for (int size = 2; size <= 4; size++) {
            Engine x = CHECK.engine("a" + size + ",9!0");
            for (int i = 1; i < size; i++) {
                CHECK.due("send", x.send(0, i, 7), 3);
                CHECK.groups(x, "7/" + (i * (i + 1) / 2) + "/" + i + "/9");
            }
            CHECK.due("send", x.send(0, size, 7), 3);
            CHECK.groups(x, "");
            CHECK.got(x, 0, (size * (size + 1) / 2) + "/7");
            CHECK.counts(x, (size + 1) + " 1 0 " + size + " 0 0 0 0 0 0 0 0 0");
            CHECK.due("send", x.send(0, 50, 7), 3);
            CHECK.groups(x, "7/50/1/9");
        }
    }

    private static void groupByTime() {
        Engine x = CHECK.engine("a2,3!0");
        CHECK.due("pass", x.pass(10), 0);
        CHECK.due("send", x.send(0, 5, 6), 3);
        CHECK.groups(x, "6/5/1/13");
        CHECK.due("pass", x.pass(2), 0);
        CHECK.due("delivered", x.delivered(0), 0);
        CHECK.due("pass", x.pass(1), 1);
        CHECK.got(x, 0, "5/6");
        CHECK.counts(x, "2 1 0 1 0 0 0 0 13 0 0 0 0");
        CHECK.due("pass", x.pass(100), 0);
        Engine y = CHECK.engine("a4,99");
        CHECK.due("send", y.send(0, 5, 6), 3);
        CHECK.due("pass", y.pass(98), 0);
        CHECK.due("pass", y.pass(1), 1);
    }

    private static void groupsInTheirOrder() {
        Engine x = CHECK.engine("a4,9!0", "a3,4!0");
        CHECK.due("send", x.send(0, 1, 11), 3);
        CHECK.due("send", x.send(1, 2, 12), 3);
        CHECK.due("send", x.send(0, 3, 13), 3);
        CHECK.due("pass", x.pass(1), 0);
        CHECK.due("send", x.send(1, 4, 14), 3);
        CHECK.due("send", x.send(0, 5, 11), 3);
        CHECK.groups(x, "11/6/2/9 12/2/1/4 13/3/1/9 14/4/1/5");
        CHECK.due("count", x.count(10), 4);
        CHECK.due("pass", x.pass(3), 1);
        CHECK.groups(x, "11/6/2/9 13/3/1/9 14/4/1/5");
        CHECK.due("send", x.send(1, 6, 12), 3);
        CHECK.groups(x, "11/6/2/9 13/3/1/9 14/4/1/5 12/6/1/8");
        CHECK.due("pass", x.pass(5), 4);
        CHECK.got(x, 0, "2/12 4/14 6/12 6/11 3/13");
    }

    private static void groupsOfOneStep() {
        Engine x = CHECK.engine("a3,9!0");
        for (int key = 1; key <= 3; key++) {
            CHECK.due("send", x.send(0, key, key), 3);
        }
        CHECK.due("send of a fourth key", x.send(0, 4, 4), 6);
        CHECK.due("send of a key that has a group", x.send(0, 5, 2), 3);
        CHECK.groups(x, "1/1/1/9 2/7/2/9 3/3/1/9");
        CHECK.due("send", x.send(0, 6, 2), 3);
        CHECK.got(x, 0, "13/2");
        CHECK.due("send of a fourth key with room", x.send(0, 4, 4), 3);
        CHECK.groups(x, "1/1/1/9 3/3/1/9 4/4/1/9");
    }

    private static void groupsOfTwoSteps() {
        Engine x = CHECK.engine("a2,9a2,8!0", "a2,7!1", ">3", "a2,6!2");
        CHECK.due("send", x.send(0, 1, 5), 3);
        CHECK.due("send", x.send(1, 2, 5), 3);
        CHECK.due("send", x.send(2, 3, 5), 3);
        CHECK.groups(x, "5/1/1/9 5/2/1/7 5/3/1/6");
        CHECK.due("send", x.send(0, 4, 5), 3);
        CHECK.groups(x, "5/2/1/7 5/3/1/6 5/5/1/8");
        CHECK.due("send by another way to the same step", x.send(3, 5, 5), 3);
        CHECK.got(x, 2, "8/5");
        CHECK.due("send", x.send(0, 6, 5), 3);
        CHECK.due("send", x.send(0, 7, 5), 3);
        CHECK.got(x, 0, "18/5");
        CHECK.groups(x, "5/2/1/7");
        CHECK.counts(x, "11 2 0 9 0 0 0 0 0 0 1 0 0");
    }

    private static void groupWrongArguments() {
        Engine x = CHECK.engine("a2,9");
        CHECK.due("send", x.send(0, 3, 5), 3);
        int[][] wrong = {
            {-1, 0}, {1, 0}, {1, 3}, {0, -1}, {0, 4}, {Integer.MAX_VALUE, 0}, {Integer.MIN_VALUE, 0},
            {0, Integer.MAX_VALUE}, {0, Integer.MIN_VALUE},
        };
        for (int[] w : wrong) {
            CHECK.due("group(" + w[0] + ", " + w[1] + ")", x.group(w[0], w[1]), 0);
        }
        CHECK.groups(x, "5/3/1/9");
    }

    private static void sumsWrap() {
        Engine x = CHECK.engine("a3,9!0");
        for (int i = 0; i < 3; i++) {
            CHECK.due("send", x.send(0, Integer.MAX_VALUE, Integer.MIN_VALUE), 3);
        }
        CHECK.got(x, 0, (3 * Integer.MAX_VALUE) + "/" + Integer.MIN_VALUE);
    }

    private static void releasedBehindTheStep() {
        Engine x = CHECK.engine(">1!0", "!1a2,9+1!2");
        CHECK.yes("clause", x.clause(1, 0, 0, true, true));
        CHECK.due("send", x.send(0, 1, 5), 3);
        CHECK.due("send", x.send(0, 2, 5), 3);
        CHECK.got(x, 1, "1/5 2/5");
        CHECK.got(x, 2, "4/5");
        CHECK.due("delivered behind the step > of the route that ran it", x.delivered(0), 0);
        CHECK.counts(x, "3 1 0 2 0 0 0 0 0 0 0 0 0");
        CHECK.due("send", x.send(0, 1, 5), 3);
        CHECK.yes("fail", x.fail(2, 1, 1));
        CHECK.due("send", x.send(0, 2, 5), 3);
        CHECK.got(x, 4, "3/5");
    }

    private static void releasesWithinOneTick() {
        Engine x = CHECK.engine("a2,5fk<9!0", "a2,5>2", "a2,1!1");
        CHECK.due("send", x.send(0, 1, 3), 3);
        CHECK.due("send", x.send(0, 2, 9), 3);
        CHECK.due("send", x.send(1, 3, 4), 3);
        CHECK.due("pass", x.pass(4), 0);
        CHECK.due("pass", x.pass(1), 3);
        CHECK.got(x, 0, "1/3");
        CHECK.groups(x, "4/3/1/6");
        CHECK.due("pass", x.pass(3), 1);
        CHECK.got(x, 1, "3/4");
        CHECK.counts(x, "7 2 1 4 0 0 0 0 8 0 0 0 0");
        // The second of two that fall due at once fills the group that the first one opened.
        Engine y = CHECK.engine("a4,5>1", "a2,9!1");
        CHECK.due("send", y.send(0, 1, 3), 3);
        CHECK.due("pass", y.pass(5), 1);
        CHECK.due("send", y.send(0, 2, 3), 3);
        CHECK.due("pass that releases one for being due, and one for its size", y.pass(5), 1);
        CHECK.got(y, 1, "3/3");
        CHECK.counts(y, "5 1 0 4 0 0 0 0 10 0 0 0 0");
    }

    private static void timeThatRunsAhead() {
        Engine x = CHECK.engine("a2,5!0", "!1", "a2,50!0");
        CHECK.yes("clause", x.clause(1, 2, 20, true, false));
        CHECK.due("send", x.send(2, 7, 8), 3);
        CHECK.due("send", x.send(0, 1, 2), 3);
        CHECK.yes("fail", x.fail(1, 1, 1));
        CHECK.due("send", x.send(1, 1, 2), 1);
        CHECK.counts(x, "3 1 0 2 0 0 0 0 20 0 2 0 1");
        CHECK.groups(x, "8/7/1/50 2/1/1/5");
        CHECK.yes("fail", x.fail(0, 2, 1));
        CHECK.due("pass: redeliveries bring the time beyond the other's", x.pass(1), 2);
        CHECK.due("the time", x.count(8), 81);
        CHECK.got(x, 0, "1/2 7/8");
    }

    private static void heldInOrder() {
        Engine x = CHECK.engine("q4!0");
        int[] keys = {5, -3, 5, Integer.MIN_VALUE, 2, 1, 2, 1};
        for (int i = 0; i < 3; i++) {
            CHECK.due("send", x.send(0, i, keys[i]), 3);
            CHECK.due("count", x.count(11), i + 1);
        }
        CHECK.due("delivered", x.delivered(0), 0);
        CHECK.due("send", x.send(0, 3, keys[3]), 3);
        CHECK.got(x, 0, "3/" + Integer.MIN_VALUE + " 1/-3 0/5 2/5");
        CHECK.counts(x, "8 4 0 4 0 0 0 0 0 0 0 0 0");
        for (int i = 4; i < 8; i++) {
            CHECK.due("send", x.send(0, i, keys[i]), 3);
        }
        CHECK.got(x, 0, "3/" + Integer.MIN_VALUE + " 1/-3 0/5 2/5 5/1 7/1 4/2 6/2");
        for (int size = 2; size <= 3; size++) {
            Engine y = CHECK.engine("q" + size + "!0");
            for (int i = 0; i < size; i++) {
                CHECK.due("delivered", y.delivered(0), 0);
                CHECK.due("send", y.send(0, i, -i), 3);
            }
            CHECK.due("delivered", y.delivered(0), size);
            CHECK.due("body", y.body(0, 0), 0);
            CHECK.due("count", y.count(11), 0);
        }
    }

    private static void heldFromManyWays() {
        Engine x = CHECK.engine(">2!3", "s2(k>2)!3", "+1q3!0q2!1");
        CHECK.due("send", x.send(0, 1, 9), 3);
        CHECK.due("delivered", x.delivered(3), 0);
        CHECK.due("send whose parts are held", x.send(1, 9, 1), 1);
        CHECK.got(x, 3, "0/1");
        CHECK.got(x, 0, "5/4 6/5 2/9");
        CHECK.got(x, 1, "5/4 6/5");
        CHECK.counts(x, "9 3 0 6 0 0 0 0 0 0 0 1 0");
        CHECK.due("pass", x.pass(100), 0);
        CHECK.due("count", x.count(11), 1);
        // The original of what was held is the body with which it was held.
        Engine y = CHECK.engine("*5q2+1!0");
        CHECK.yes("clause", y.clause(1, 0, 0, true, true));
        CHECK.yes("fail", y.fail(0, 1, 1));
        CHECK.due("send", y.send(0, 1, 1), 3);
        CHECK.due("send", y.send(0, 2, 2), 3);
        CHECK.got(y, 4, "5/1");
        CHECK.got(y, 0, "11/2");
    }

    private static void readyInTheirOrder() {
        // Those that the first q makes ready go on one after the other; what they make ready comes behind them.
        Engine x = CHECK.engine("s3(k>1)!0", "q3!0?b=3(k)a2,9!0");
        CHECK.due("send", x.send(0, 10, 5), 1);
        CHECK.got(x, 0, "0/5 3/3 3/3 4/4 6/3");
        CHECK.groups(x, "4/4/1/9");
    }

    private static void readyAreCut() {
        Engine y = CHECK.engine(">3>3>3>3kkkkkkkkkkkkk>2", "", "q2k", "kkkkkkkkkkkkkkkkkkkk");
        CHECK.due("send", y.send(0, 1, 1), 3);
        CHECK.due("send of 99 attempts, and two that are ready", y.send(0, 1, 1), 3);
        CHECK.counts(y, "4 1 0 2 0 0 0 1 0 0 0 0 0");
        CHECK.due("send in a new call", y.send(2, 1, 1), 3);
        CHECK.due("send in a new call", y.send(2, 1, 1), 3);
        CHECK.counts(y, "8 3 0 4 0 0 0 1 0 0 0 0 0");
    }

    private static void passHasHundredAttempts() {
        Engine x = CHECK.engine("a2,1>2k", "a2,9>2k", "kkkkkkkkkkkkkkkkkkkkkkkkkkkkkkkkkkkkkkkk");
        for (int key = 1; key <= 3; key++) {
            CHECK.due("send", x.send(0, 1, key), 3);
        }
        CHECK.due("send", x.send(1, 1, 1), 3);
        // 42 attempts each: the third one is cut, and so is the one that falls due later in the same call.
        CHECK.due("pass", x.pass(10), 4);
        CHECK.counts(x, "8 2 0 4 0 0 0 2 10 0 0 0 0");
    }

    private static void eachCallHasHundredAttempts() {
        Engine x = CHECK.engine("&1&2>3>3>3>3kkkkkkkkkkkkkk", "k!1", "a2,9k!2", "kkkkkkkkkkkkkkkkkkkk");
        CHECK.due("send of 100 attempts", x.send(0, 1, 1), 1);
        CHECK.due("work", x.work(), 1);
        CHECK.due("work", x.work(), 3);
        CHECK.due("send of 100 attempts", x.send(0, 1, 1), 1);
        CHECK.due("pass", x.pass(9), 1);
        CHECK.got(x, 1, "1/1");
        CHECK.got(x, 2, "1/1");
        CHECK.due("send of 100 attempts", x.send(0, 1, 1), 1);
        CHECK.due("work", x.work(), 1);
        CHECK.due("count", x.count(7), 0);
    }
}
