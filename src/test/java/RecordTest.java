/** Promises 11, 12, 13 and 15: delivered, body, key and count. */
public final class RecordTest {
    private static final Check CHECK = new Check();

    public static void main(String[] args) {
        delivered();
        latestEight();
        wrongArguments();
        counts();
        everyExchangeEndsOnce();
        CHECK.end();
    }

    private static void delivered() {
        Engine x = CHECK.engine("r!0");
        CHECK.yes("clause", x.clause(1, 0, 0, true, false));
        for (int key = 0; key < 16; key++) {
            CHECK.due("send", x.send(0, 100 + key, key), 1);
        }
        CHECK.due("delivered(0)", x.delivered(0), 24);
        for (int d = 1; d < 4; d++) {
            CHECK.due("delivered", x.delivered(d), 8);
        }
        CHECK.due("delivered(4)", x.delivered(4), 0);
        for (int i = 1; i <= 9; i++) {
            CHECK.yes("fail", x.fail(0, 1, 1));
            CHECK.due("send", x.send(0, i, 2 * i + 1), 5);
            CHECK.due("delivered(4)", x.delivered(4), i);
            CHECK.due("body(4, 0)", x.body(4, 0), i);
            CHECK.due("key(4, 0)", x.key(4, 0), 2 * i + 1);
        }
        CHECK.got(x, 4, "2/5 3/7 4/9 5/11 6/13 7/15 8/17 9/19");
        for (int d : new int[] {-1, 5, Integer.MIN_VALUE, Integer.MAX_VALUE}) {
            CHECK.due("delivered(" + d + ")", x.delivered(d), -1);
        }
    }

    private static void latestEight() {
        Engine x = CHECK.engine("!3");
        for (int i = 0; i < 20; i++) {
            CHECK.due("send", x.send(0, 7 * i + 1, -i - 1), 1);
            for (int k = 0; k < 10; k++) {
                boolean kept = k <= i && k <= 7;
                CHECK.due("body(3, " + k + ")", x.body(3, k), kept ? 7 * (i - k) + 1 : 0);
                CHECK.due("key(3, " + k + ")", x.key(3, k), kept ? k - i - 1 : 0);
            }
        }
    }

    private static void wrongArguments() {
        Engine x = CHECK.engine("!0!1!2!3");
        CHECK.yes("clause", x.clause(1, 0, 0, true, false));
        for (int i = 0; i < 9; i++) {
            CHECK.due("send", x.send(0, 5, 6), 1);
        }
        int[][] wrong = {
            {-1, 0}, {5, 0}, {0, -1}, {0, 8}, {4, 0}, {Integer.MIN_VALUE, 0}, {Integer.MAX_VALUE, 0},
            {0, Integer.MIN_VALUE}, {0, Integer.MAX_VALUE},
        };
        for (int[] w : wrong) {
            CHECK.due("body(" + w[0] + ", " + w[1] + ")", x.body(w[0], w[1]), 0);
            CHECK.due("key(" + w[0] + ", " + w[1] + ")", x.key(w[0], w[1]), 0);
        }
        CHECK.due("body(3, 7)", x.body(3, 7), 5);
        CHECK.due("key(3, 7)", x.key(3, 7), 6);
    }

    private static void counts() {
        Engine x = CHECK.engine("i?k=1(fb=0)?k=2(!0)?k=3(>1)?k=4(>2)&0", "a2,9", "q2", "s4(+1)!3");
        CHECK.yes("clause", x.clause(3, 2, 5, true, false));
        CHECK.due("send", x.send(0, 1, 1), 2);
        CHECK.due("send", x.send(0, 1, 1), 4);
        CHECK.yes("fail", x.fail(0, 9, 3));
        CHECK.due("send", x.send(0, 1, 2), 5);
        CHECK.yes("fail", x.fail(3, 1, 1));
        CHECK.due("send", x.send(3, 1, 2), 6);
        CHECK.due("send", x.send(0, 1, 3), 3);
        CHECK.due("send", x.send(0, 1, 4), 3);
        CHECK.due("send", x.send(0, 1, 5), 1);
        CHECK.counts(x, "11 5 1 2 1 1 1 0 15 1 1 1 2");
        for (int what : new int[] {-1, 13, 100, Integer.MIN_VALUE, Integer.MAX_VALUE}) {
            CHECK.due("count(" + what + ")", x.count(what), -1);
        }
    }

    private static void everyExchangeEndsOnce() {
        Engine x = CHECK.engine("s4(s4(s4(>1)))q2i!0", "?b%2(&2):(r)>2", "a3,4!1>3", "q3!2");
        CHECK.yes("clause", x.clause(3, 1, 3, true, true));
        CHECK.yes("clause", x.clause(2, 2, 1, false, true));
        for (int i = 0; i < 35; i++) {
            CHECK.yes("fail", x.fail(i % 4, i % 10, i % 7 + 1));
            x.send(i % 4, 37 * i, i % 5);
            x.work();
            x.pass(1 + i % 3);
            int ended = 0;
            for (int outcome = 1; outcome <= 7; outcome++) {
                ended += x.count(outcome);
            }
            CHECK.due("the exchanges that ended", ended, x.count(0));
        }
        CHECK.yes("parts were cut", x.count(7) > 0);
    }
}
