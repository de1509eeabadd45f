/**
 * The bounds that the document names for the steps, as exchanges run through them. Each test
 * stands beside the words that it tests, on both sides of the bound.
 */
public final class StepBoundsTest {
    private static final Check CHECK = new Check();
    private static final int LEAST = Integer.MIN_VALUE;
    private static final int MOST = Integer.MAX_VALUE;

    public static void main(String[] args) {
        sumsWrap();
        differencesWrap();
        productsWrap();
        partsWrap();
        groupsWrap();
        testsLessGreaterEqual();
        testsWithoutRest();
        secondListIfThereIsOne();
        filtersAtTheBound();
        otherRoutes();
        partsRoundedDown();
        exchangeBehindItsParts();
        originals();
        sumOfPartsThatCompleted();
        eightInTheQueue();
        eightInTheQueueInOneCall();
        fullQueueThrowsSix();
        bitsOfTheKey();
        firstThatThrows();
        latestFourKeys();
        firstKeyKept();
        threeGroupsOfAStep();
        fullStepThrowsFive();
        groupIsDueAtTimeAndWait();
        groupOfTheSize();
        nothingBehindTheStep();
        asManyGroupsAsCanBe();
        heldOfTheSize();
        heldInTheOrderOfKeys();
        CHECK.end();
    }

    private static void sumsWrap() {
        CHECK.says("All sums, differences and products wrap.");
        CHECK.makes("+1", MOST - 1, 0, MOST + "/0");
        CHECK.makes("+1", MOST, 0, LEAST + "/0");
        CHECK.makes("+9999", MOST - 9999, 0, MOST + "/0");
        CHECK.makes("+9999", MOST - 9998, 0, LEAST + "/0");
        CHECK.makes("+9999", MOST, 0, "-2147473650/0");
        CHECK.makes("+1", -1, 0, "0/0");
        CHECK.makes("+0", MOST, 0, MOST + "/0");
    }

    private static void differencesWrap() {
        CHECK.says("All sums, differences and products wrap.");
        CHECK.makes("-1", LEAST + 1, 0, LEAST + "/0");
        CHECK.makes("-1", LEAST, 0, MOST + "/0");
        CHECK.makes("-9999", LEAST + 9999, 0, LEAST + "/0");
        CHECK.makes("-9999", LEAST + 9998, 0, MOST + "/0");
        CHECK.makes("-9999", LEAST, 0, "2147473649/0");
        CHECK.makes("-1", 0, 0, "-1/0");
        CHECK.makes("-0", LEAST, 0, LEAST + "/0");
    }

    private static void productsWrap() {
        CHECK.says("All sums, differences and products wrap.");
        CHECK.makes("*9999", 214769, 0, "2147475231/0");
        CHECK.makes("*9999", 214770, 0, "-2147482066/0");
        CHECK.makes("*9999", -214769, 0, "-2147475231/0");
        CHECK.makes("*9999", -214770, 0, "2147482066/0");
        CHECK.makes("*2", 1073741823, 0, "2147483646/0");
        CHECK.makes("*2", 1073741824, 0, LEAST + "/0");
        CHECK.makes("*2", -1073741824, 0, LEAST + "/0");
        CHECK.makes("*2", -1073741825, 0, "2147483646/0");
        CHECK.makes("*2", LEAST, 0, "0/0");
        CHECK.makes("*3", MOST, 0, "2147483645/0");
        CHECK.makes("*1", LEAST, 0, LEAST + "/0");
        CHECK.makes("*0", LEAST, 0, "0/0");
    }

    /** The bodies with which the parts begin, as endpoint 0 gets them, and the body behind them. */
    private static void parts(int n, int body, String begun, String sum) {
        Engine x = CHECK.engine("s" + n + "(!0)!1");
        CHECK.due("send", x.send(0, body, 7), 1);
        CHECK.same("parts of " + body, Check.got(x, 0).replace("/7", ""), begun);
        CHECK.got(x, 1, sum + "/7");
    }

    private static void partsWrap() {
        CHECK.says("All sums, differences and products wrap.");
        parts(2, MOST - 1, "1073741823 1073741823", "2147483646");
        parts(2, MOST, "1073741823 -1073741824", "-1");
        parts(4, MOST - 3, "536870911 536870911 536870911 536870911", "2147483644");
        parts(4, MOST - 2, "536870911 536870911 536870911 -536870912", "1073741821");
        parts(4, MOST, "536870911 -536870912 -536870912 -536870912", "-1073741825");
        parts(1, MOST, "" + MOST, "" + MOST);
        parts(1, LEAST, "" + LEAST, "" + LEAST);
        parts(4, LEAST, "-536870912 -536870912 -536870912 -536870912", "" + LEAST);
        CHECK.makes("s2(b)", 0, 1073741823, "2147483646/1073741823");
        CHECK.makes("s2(b)", 0, 1073741824, LEAST + "/1073741824");
        CHECK.makes("s2(b)", 0, -1073741824, LEAST + "/-1073741824");
        CHECK.makes("s2(b)", 0, -1073741825, "2147483646/-1073741825");
        CHECK.makes("s4(b)", 0, MOST, "-4/" + MOST);
    }

    private static void groupsWrap() {
        CHECK.says("All sums, differences and products wrap.");
        int[][] bodies = {{MOST - 1, 1, MOST}, {MOST, 1, LEAST}, {LEAST + 1, -1, LEAST}, {LEAST, -1, MOST}, {LEAST, LEAST, 0}};
        for (int[] b : bodies) {
            Engine x = CHECK.engine("a3,9!0");
            CHECK.due("send", x.send(0, b[0], LEAST), 3);
            CHECK.due("send", x.send(0, b[1], LEAST), 3);
            CHECK.groups(x, LEAST + "/" + b[2] + "/2/9");
            CHECK.due("send", x.send(0, 0, LEAST), 3);
            CHECK.got(x, 0, b[2] + "/" + LEAST);
        }
    }

    /** Whether the test holds for the value as body, and as key, in a step ? and in a step f. */
    private static void holds(String relation, int value, boolean want) {
        int other = want ? LEAST + 12345 : value;
        Engine x = CHECK.engine("?b" + relation + "(!0):(!1)fb" + relation + "!2", "?k" + relation + "(!0):(!1)fk" + relation + "!2");
        CHECK.due("send for b" + relation + " of " + value, x.send(0, value, other), want ? 1 : 2);
        CHECK.due("first list", x.delivered(0), want ? 1 : 0);
        CHECK.due("second list", x.delivered(1), want ? 0 : 1);
        CHECK.due("send for k" + relation + " of " + value, x.send(1, other, value), want ? 1 : 2);
        CHECK.due("first lists", x.delivered(0), want ? 2 : 0);
        CHECK.due("second lists", x.delivered(1), want ? 0 : 2);
        CHECK.due("behind the filters", x.delivered(2), want ? 2 : 0);
    }

    private static void testsLessGreaterEqual() {
        CHECK.says("it holds if the body (b) or key (k) is less than N, greater than N, N, or divided by N without a rest");
        for (int n : new int[] {0, 1, 5, 9999}) {
            for (int value : new int[] {n - 1, n, n + 1, LEAST, MOST, -n - 1}) {
                holds("<" + n, value, value < n);
                holds(">" + n, value, value > n);
                holds("=" + n, value, value == n);
            }
        }
    }

    private static void testsWithoutRest() {
        CHECK.says("divided by N without a rest (N is not 0 then)");
        for (int value : new int[] {0, 1, -1, 2, LEAST, MOST}) {
            holds("%1", value, true);
        }
        for (int value : new int[] {0, 2, -2, LEAST, MOST - 1}) {
            holds("%2", value, true);
        }
        for (int value : new int[] {1, -1, 3, -3, LEAST + 1, MOST}) {
            holds("%2", value, false);
        }
        for (int value : new int[] {0, 9999, -9999, 19998, 2147475231, -2147475231}) {
            holds("%9999", value, true);
        }
        for (int value : new int[] {1, -1, 9998, -9998, 10000, -10000, LEAST, MOST, 2147475230, 2147475232}) {
            holds("%9999", value, false);
        }
    }

    private static void secondListIfThereIsOne() {
        CHECK.says("if the test holds the first list is run, otherwise the second, if there is one; "
            + "the exchange ends if it ends in that list");
        CHECK.makes("?b<5(+10)", 4, 0, "14/0");
        CHECK.makes("?b<5(+10)", 5, 0, "5/0");
        CHECK.makes("?b<5(+10):(+20)", 4, 0, "14/0");
        CHECK.makes("?b<5(+10):(+20)", 5, 0, "25/0");
        Engine x = CHECK.engine("?b<5(fk=1):(fk=2)!0");
        CHECK.due("send", x.send(0, 4, 1), 1);
        CHECK.due("send", x.send(0, 4, 2), 2);
        CHECK.due("send", x.send(0, 5, 1), 2);
        CHECK.due("send", x.send(0, 5, 2), 1);
        CHECK.got(x, 0, "4/1 5/2");
        CHECK.counts(x, "4 2 2 0 0 0 0 0 0 0 0 0 0");
    }

    private static void filtersAtTheBound() {
        CHECK.says("if the test does not hold, the exchange ends FILTERED");
        Engine x = CHECK.engine("fb<5!0", "fk>5!1", "fb=5!2", "fk%5!3");
        CHECK.due("send", x.send(0, 4, 0), 1);
        CHECK.due("send", x.send(0, 5, 0), 2);
        CHECK.due("send", x.send(1, 0, 6), 1);
        CHECK.due("send", x.send(1, 0, 5), 2);
        CHECK.due("send", x.send(2, 5, 0), 1);
        CHECK.due("send", x.send(2, 4, 0), 2);
        CHECK.due("send", x.send(2, 6, 0), 2);
        CHECK.due("send", x.send(3, 0, -5), 1);
        CHECK.due("send", x.send(3, 0, -4), 2);
        for (int d = 0; d <= 3; d++) {
            CHECK.due("delivered", x.delivered(d), 1);
        }
    }

    private static void otherRoutes() {
        CHECK.says("the exchange runs through that route, and goes on here, if it has not ended there");
        Engine x = CHECK.engine(">1+1!0", "fb<5>3+1", "", "+1");
        CHECK.due("send", x.send(0, 4, 6), 1);
        CHECK.due("send that ends there", x.send(0, 5, 6), 2);
        CHECK.got(x, 0, "7/6");
    }

    private static void partsRoundedDown() {
        CHECK.says("N PARTS run through the list, one after the other, for i = 0 .. N - 1: each is an exchange of its own "
            + "that begins with the body (body + i) / N, rounded down, and the exchange's key.");
        parts(1, 5, "5", "5");
        parts(1, -5, "-5", "-5");
        parts(2, 0, "0 0", "0");
        parts(2, 1, "0 1", "1");
        parts(2, -1, "-1 0", "-1");
        parts(2, -2, "-1 -1", "-2");
        parts(2, -3, "-2 -1", "-3");
        parts(3, 2, "0 1 1", "2");
        parts(3, 3, "1 1 1", "3");
        parts(3, 4, "1 1 2", "4");
        parts(3, -1, "-1 0 0", "-1");
        parts(3, -3, "-1 -1 -1", "-3");
        parts(3, -4, "-2 -1 -1", "-4");
        parts(4, 3, "0 1 1 1", "3");
        parts(4, 4, "1 1 1 1", "4");
        parts(4, 5, "1 1 1 2", "5");
        parts(4, -1, "-1 0 0 0", "-1");
        parts(4, -4, "-1 -1 -1 -1", "-4");
        parts(4, -5, "-2 -1 -1 -1", "-5");
        for (int n = 1; n <= 4; n++) {
            Engine x = CHECK.engine("s" + n + "()");
            CHECK.due("send", x.send(0, 9, 9), 1);
            CHECK.counts(x, (n + 1) + " " + (n + 1) + " 0 0 0 0 0 0 0 0 0 0 0");
        }
    }

    private static void exchangeBehindItsParts() {
        CHECK.says("A part that comes to the end of the list ends COMPLETED. Then the exchange goes on with its own key");
        CHECK.makes("s1(k+1)", 5, 6, "6/6");
        CHECK.makes("s2(k+1)+1", 5, 6, "8/6");
        CHECK.makes("?b%1(s2(+1))+1", 4, 6, "7/6");
        CHECK.makes("s2(?b%1(s2(k+1)))+1", 8, 6, "13/6");
        CHECK.makes("s2(s2(s2(k+1)+1)+1)+1", 8, 6, "23/6");
    }

    /** Endpoint 0 throws, and the dead letters get the original. */
    private static Engine throwing(String... texts) {
        Engine x = CHECK.engine(texts);
        CHECK.yes("clause", x.clause(1, 0, 0, true, true));
        CHECK.yes("fail", x.fail(0, 9, 1));
        return x;
    }

    private static void originals() {
        CHECK.says("the original is the body that it had when it began");
        Engine sent = throwing("+1?b%1(+1>1)", "+1!0");
        CHECK.due("send", sent.send(0, 5, 6), 5);
        CHECK.got(sent, 4, "5/6");
        Engine parts = throwing("+1s2(+1!0)+1!0");
        CHECK.due("send", parts.send(0, 8, 6), 5);
        CHECK.got(parts, 4, "4/6 5/6 8/6");
        Engine copy = throwing("+1&1", "+1!0");
        CHECK.due("send", copy.send(0, 5, 6), 1);
        CHECK.due("work", copy.work(), 5);
        CHECK.got(copy, 4, "6/6");
        Engine group = throwing("+1a2,9+1!0");
        CHECK.due("send", group.send(0, 5, 6), 3);
        CHECK.due("send", group.send(0, 6, 6), 3);
        CHECK.got(group, 4, "13/6");
        Engine held = throwing("+1q2+1!0");
        CHECK.due("send", held.send(0, 5, 6), 3);
        CHECK.due("send", held.send(0, 7, 6), 3);
        CHECK.got(held, 4, "6/6 8/6");
    }

    private static void sumOfPartsThatCompleted() {
        CHECK.says("as its body, the sum of the bodies with which the parts that ended COMPLETED ended (0 if none did)");
        CHECK.makes("s4(fb>9)", 22, 1, "0/1");
        CHECK.makes("s4(fb>5)", 22, 1, "12/1");
        CHECK.makes("s4(fb>4)", 22, 1, "22/1");
        CHECK.makes("s4(fb<6)", 22, 1, "10/1");
        CHECK.makes("s1(fb=5)", 5, 1, "5/1");
        CHECK.makes("s1(fb=5)", 6, 1, "0/1");
        CHECK.makes("s2(+7)", 6, 1, "20/1");
        CHECK.makes("s2(k)", 6, 1, "6/1");
        Engine x = CHECK.engine("s4(!0)!1");
        CHECK.yes("fail", x.fail(0, 3, 1));
        CHECK.due("send of which one part completes", x.send(0, 22, 1), 1);
        CHECK.got(x, 1, "6/1");
        CHECK.yes("fail", x.fail(0, 4, 1));
        CHECK.due("send of which no part completes", x.send(0, 22, 1), 1);
        CHECK.got(x, 1, "6/1 0/1");
        CHECK.counts(x, "10 3 0 0 0 0 7 0 0 0 0 0 0");
    }

    private static void eightInTheQueue() {
        CHECK.says("if 8 are in the queue, this THROWS 6");
        Engine x = CHECK.engine("&1!3", "!0", "&0&1&2&3!3", "");
        for (int i = 1; i <= 8; i++) {
            CHECK.due("send as copy " + i, x.send(0, 10 * i, i), 1);
            CHECK.due("copies in the queue", x.count(9), i);
        }
        CHECK.due("send with 8 in the queue", x.send(0, 90, 9), 6);
        CHECK.counts(x, "9 8 0 0 0 0 1 0 0 8 0 0 0");
        CHECK.due("nothing runs behind the throw", x.delivered(3), 8);
        for (int i = 1; i <= 8; i++) {
            CHECK.due("work", x.work(), 1);
            CHECK.due("copies in the queue", x.count(9), 8 - i);
        }
        CHECK.got(x, 0, "10/1 20/2 30/3 40/4 50/5 60/6 70/7 80/8");
        CHECK.due("work on what was thrown away", x.work(), -1);
        CHECK.due("send", x.send(2, 5, 6), 1);
        CHECK.due("send", x.send(2, 7, 8), 1);
        CHECK.due("copies in the queue", x.count(9), 8);
        CHECK.due("send with 8 in the queue", x.send(2, 9, 9), 6);
        CHECK.due("work", x.work(), 1);
        CHECK.due("copies in the queue: the copy for route 0 made one more", x.count(9), 8);
        CHECK.due("work", x.work(), 1);
        CHECK.due("copies in the queue", x.count(9), 7);
        CHECK.due("send with 7 in the queue", x.send(0, 9, 9), 1);
        CHECK.due("copies in the queue", x.count(9), 8);
    }

    private static void eightInTheQueueInOneCall() {
        CHECK.says("if 8 are in the queue, this THROWS 6");
        Engine x = CHECK.engine("&1".repeat(7) + "!0", "&1".repeat(8) + "!1", "&1".repeat(9) + "!2");
        CHECK.due("send of 7 copies", x.send(0, 1, 1), 1);
        CHECK.due("copies in the queue", x.count(9), 7);
        CHECK.due("send of 8 more, of which one finds room", x.send(1, 1, 1), 6);
        CHECK.due("copies in the queue", x.count(9), 8);
        CHECK.due("read()", x.read(), 0);
        CHECK.due("send of 8 copies", x.send(1, 1, 1), 1);
        CHECK.due("copies in the queue", x.count(9), 8);
        CHECK.due("read()", x.read(), 0);
        CHECK.due("send of 9 copies", x.send(2, 1, 1), 6);
        CHECK.due("copies in the queue", x.count(9), 8);
        CHECK.due("delivered behind 7", x.delivered(0), 1);
        CHECK.due("delivered behind 8", x.delivered(1), 1);
        CHECK.due("delivered behind 9", x.delivered(2), 0);
        CHECK.due("work: 7 are left, one finds room, the next one throws", x.work(), 6);
        CHECK.due("copies in the queue", x.count(9), 8);
        CHECK.due("delivered", x.delivered(1), 1);
    }

    /** A throw of t is caught by the clause of t and of its halves, and by no other. */
    private static void fullQueueThrowsSix() {
        CHECK.says("if 8 are in the queue, this THROWS 6");
        for (int t = 1; t <= 7; t++) {
            Engine x = CHECK.engine("&1".repeat(8), "&2");
            CHECK.yes("clause", x.clause(t, 0, 0, true, false));
            CHECK.due("send of 8 copies", x.send(0, 5, 5), 1);
            boolean caught = t == 6 || t == 3 || t == 1;
            CHECK.due("send with a clause for " + t, x.send(1, 7, 8), caught ? 5 : 6);
            CHECK.got(x, 4, caught ? "7/8" : "");
        }
    }

    private static void bitsOfTheKey() {
        CHECK.says("r deliveries to each of the endpoints 0, 1, 2, 3, in this order, "
            + "for which the bit 0, 1, 2, 3 of the key is on");
        int[] keys = {0, 1, 2, 3, 4, 5, 6, 7, 8, 9, 10, 11, 12, 13, 14, 15, 16, 17, 31, 32, -1, -2, -16, -15, LEAST, MOST};
        for (int key : keys) {
            Engine x = CHECK.engine("r");
            CHECK.due("send", x.send(0, 3, key), 1);
            for (int d = 0; d <= 3; d++) {
                CHECK.got(x, d, (key >> d & 1) == 1 ? "3/" + key : "");
            }
            CHECK.due("dead letters", x.delivered(4), 0);
        }
    }

    private static void firstThatThrows() {
        CHECK.says("the first one that throws ends the step");
        for (int failing = 0; failing <= 3; failing++) {
            Engine x = CHECK.engine("r!0");
            CHECK.yes("fail", x.fail(failing, 1, 1));
            CHECK.due("send", x.send(0, 3, 15), 6);
            for (int d = 0; d <= 3; d++) {
                CHECK.due("delivered to " + d, x.delivered(d), d < failing ? 1 : 0);
            }
            // Those behind the one that throws are not asked, so that each send takes one failure away.
            Engine y = CHECK.engine("r");
            for (int d = failing; d <= 3; d++) {
                CHECK.yes("fail", y.fail(d, 1, 1));
            }
            for (int d = failing; d <= 3; d++) {
                CHECK.due("send", y.send(0, 3, 15), 6);
                CHECK.due("delivered to " + d, y.delivered(d), 0);
            }
            CHECK.due("send with no failure left", y.send(0, 3, 15), 1);
            for (int d = 0; d <= 3; d++) {
                CHECK.due("delivered to " + d, y.delivered(d), d < failing ? 5 - failing : 4 - d);
            }
        }
    }

    private static void latestFourKeys() {
        CHECK.says("if the key is among the latest 4 keys that this step has kept, the exchange ends DUPLICATE; "
            + "otherwise the step keeps the key (and of more than 4 forgets the one kept first)");
        Engine x = CHECK.engine("i!0");
        int[] keys = {0, LEAST, MOST, -1};
        for (int key : keys) {
            CHECK.due("send of a new key", x.send(0, 1, key), 1);
            CHECK.due("send of the same key", x.send(0, 2, key), 4);
        }
        for (int key : keys) {
            CHECK.due("send of one of four keys", x.send(0, 3, key), 4);
        }
        CHECK.due("delivered", x.delivered(0), 4);
        CHECK.due("send of a fifth key", x.send(0, 4, 5), 1);
        for (int key : new int[] {LEAST, MOST, -1, 5}) {
            CHECK.due("send of one of the latest four keys", x.send(0, 5, key), 4);
        }
        CHECK.due("send of the key that was forgotten", x.send(0, 6, 0), 1);
        CHECK.due("send of the key that was forgotten for it", x.send(0, 7, LEAST), 1);
        CHECK.due("send of a key that is still kept", x.send(0, 8, -1), 4);
        CHECK.got(x, 0, "1/0 1/" + LEAST + " 1/" + MOST + " 1/-1 4/5 6/0 7/" + LEAST);
        CHECK.counts(x, "20 7 0 0 13 0 0 0 0 0 0 0 0");
    }

    private static void firstKeyKept() {
        CHECK.says("otherwise the step keeps the key (and of more than 4 forgets the one kept first)");
        // A duplicate is not kept once more: the one kept first is forgotten, though it came again.
        Engine x = CHECK.engine("i");
        for (int key = 1; key <= 4; key++) {
            CHECK.due("send", x.send(0, 0, key), 1);
        }
        CHECK.due("send of the first key once more", x.send(0, 0, 1), 4);
        CHECK.due("send of a fifth key", x.send(0, 0, 5), 1);
        CHECK.due("send of the second key", x.send(0, 0, 2), 4);
        CHECK.due("send of the first key", x.send(0, 0, 1), 1);
        // Each step keeps four of its own, also inside parentheses and at the end of the longest text.
        Engine y = CHECK.engine("k".repeat(39) + "i", "s1(i)i", "", "k".repeat(39) + "i");
        for (int body = 1; body <= 5; body++) {
            for (int r : new int[] {0, 1, 3}) {
                CHECK.due("send of a new key", y.send(r, body, body), 1);
                CHECK.due("send of the same key", y.send(r, body, body), 4);
            }
        }
        CHECK.due("send of the key kept first", y.send(0, 1, 1), 1);
        CHECK.due("send of the key kept first", y.send(3, 1, 1), 1);
        CHECK.due("send of a key kept later", y.send(0, 3, 3), 4);
        CHECK.due("send of a key kept later", y.send(3, 3, 3), 4);
        // What one step forgets is not seen by the step beside it.
        Engine z = CHECK.engine("iq4!0", "?k<6(i)i!1");
        for (int key = 1; key <= 8; key++) {
            CHECK.due("send", z.send(0, 10 * key, key), 3);
        }
        CHECK.got(z, 0, "10/1 20/2 30/3 40/4 50/5 60/6 70/7 80/8");
        for (int key : new int[] {9, 8, 1, 2}) {
            CHECK.due("send of a new key", z.send(1, key, key), 1);
        }
        CHECK.due("send of a key that the second step has kept", z.send(1, 9, 9), 4);
        CHECK.due("send of a fifth key for the second step", z.send(1, 3, 3), 1);
        CHECK.due("send of the key that it has forgotten", z.send(1, 9, 9), 1);
        CHECK.due("send of a key that it has forgotten for this one", z.send(1, 8, 8), 1);
        CHECK.due("send of a key that the first step still keeps", z.send(1, 1, 1), 4);
    }

    private static void threeGroupsOfAStep() {
        CHECK.says("If there is no such group, one is opened, due at the time + the wait, with the sum 0; "
            + "but if this step has 3 groups open, it THROWS 5 instead.");
        Engine x = CHECK.engine("a3,9!0", "a3,9!1", "a2,9a2,8!2");
        CHECK.due("send", x.send(0, 10, 1), 3);
        CHECK.due("send", x.send(0, 20, 2), 3);
        CHECK.due("send that opens the third group", x.send(0, 30, 3), 3);
        CHECK.due("send that would open the fourth", x.send(0, 40, 4), 6);
        CHECK.groups(x, "1/10/1/9 2/20/1/9 3/30/1/9");
        CHECK.due("send with a key that has a group", x.send(0, 50, 3), 3);
        CHECK.groups(x, "1/10/1/9 2/20/1/9 3/80/2/9");
        CHECK.due("send to the step of another route", x.send(1, 60, 4), 3);
        CHECK.due("send that fills a group", x.send(0, 70, 3), 3);
        CHECK.got(x, 0, "150/3");
        CHECK.due("send that opens the third group again", x.send(0, 80, 4), 3);
        CHECK.due("send that would open the fourth", x.send(0, 90, 3), 6);
        CHECK.groups(x, "1/10/1/9 2/20/1/9 4/60/1/9 4/80/1/9");
        CHECK.due("pass", x.pass(8), 0);
        CHECK.due("send that would open the fourth", x.send(0, 90, 3), 6);
        CHECK.due("pass that releases all", x.pass(1), 4);
        CHECK.due("send that opens the first group again", x.send(0, 90, 3), 3);
        CHECK.groups(x, "3/90/1/18");
        CHECK.counts(x, "16 5 0 8 0 0 3 0 9 0 1 0 0");
    }

    private static void fullStepThrowsFive() {
        CHECK.says("but if this step has 3 groups open, it THROWS 5 instead.");
        for (int t = 1; t <= 7; t++) {
            Engine x = CHECK.engine("a2,9");
            CHECK.yes("clause", x.clause(t, 0, 0, true, false));
            for (int key = 1; key <= 3; key++) {
                CHECK.due("send", x.send(0, key, key), 3);
            }
            boolean caught = t == 5 || t == 2 || t == 1;
            CHECK.due("send with a clause for " + t, x.send(0, 7, 8), caught ? 5 : 6);
            CHECK.got(x, 4, caught ? "7/8" : "");
            CHECK.groups(x, "1/1/1/9 2/2/1/9 3/3/1/9");
        }
    }

    private static void groupIsDueAtTimeAndWait() {
        CHECK.says("one is opened, due at the time + the wait, with the sum 0");
        for (int wait : new int[] {1, 2, 9, 10, 98, 99}) {
            Engine x = CHECK.engine("a4," + wait + "!0");
            CHECK.due("send", x.send(0, 5, 6), 3);
            CHECK.groups(x, "6/5/1/" + wait);
            if (wait > 1) {
                CHECK.due("pass", x.pass(wait - 1), 0);
                CHECK.due("send that does not put off what is due", x.send(0, 5, 6), 3);
                CHECK.groups(x, "6/10/2/" + wait);
            }
            CHECK.due("pass", x.pass(1), 1);
            CHECK.groups(x, "");
            CHECK.due("send", x.send(0, 5, 6), 3);
            CHECK.groups(x, "6/5/1/" + 2 * wait);
        }
        // The time is the one at which it is opened, be it by a redelivery in the same run.
        Engine y = CHECK.engine("!0a2,9");
        CHECK.yes("clause", y.clause(1, 2, 5, true, false));
        CHECK.yes("fail", y.fail(0, 2, 1));
        CHECK.due("pass", y.pass(100), 0);
        CHECK.due("send", y.send(0, 1, 2), 3);
        CHECK.groups(y, "2/1/1/124");
    }

    private static void groupOfTheSize() {
        CHECK.says("A group that has as many members as the size is RELEASED: it is a group no more");
        for (int size = 2; size <= 4; size++) {
            Engine x = CHECK.engine("a" + size + ",9!0");
            for (int members = 1; members < size; members++) {
                CHECK.due("send", x.send(0, 10, 7), 3);
                CHECK.groups(x, "7/" + 10 * members + "/" + members + "/9");
                CHECK.due("delivered", x.delivered(0), 0);
            }
            CHECK.due("send of the last member", x.send(0, 10, 7), 3);
            CHECK.groups(x, "");
            CHECK.got(x, 0, 10 * size + "/7");
            CHECK.due("send of one more", x.send(0, 3, 7), 3);
            CHECK.groups(x, "7/3/1/9");
            CHECK.due("delivered", x.delivered(0), 1);
        }
    }

    private static void nothingBehindTheStep() {
        CHECK.says("that is to begin behind this step in this route (at whose end it is COMPLETED, wherever the route was run from)");
        for (int r = 0; r <= 3; r++) {
            String[] texts = {"", "", "", ""};
            texts[r] = "+1".repeat(18) + "a2,1";
            Engine x = CHECK.engine(texts);
            CHECK.due("send", x.send(r, 1, 2), 3);
            CHECK.due("send", x.send(r, 1, 2), 3);
            CHECK.counts(x, "3 1 0 2 0 0 0 0 0 0 0 0 0");
            CHECK.yes("clear", x.clear(r));
            CHECK.append(x, r, "+1".repeat(19) + "q2");
            CHECK.due("read()", x.read(), 0);
            CHECK.due("send", x.send(r, 1, 2), 3);
            CHECK.due("send", x.send(r, 1, 2), 3);
            CHECK.counts(x, "7 3 0 4 0 0 0 0 0 0 0 0 0");
        }
        Engine y = CHECK.engine("s2(>1)!0", "a2,9!1");
        CHECK.due("send whose parts are gathered in another route", y.send(0, 5, 2), 1);
        CHECK.got(y, 0, "0/2");
        CHECK.got(y, 1, "5/2");
        CHECK.counts(y, "4 2 0 2 0 0 0 0 0 0 0 0 0");
    }

    /**
     * Ten steps a stand in each of the four longest texts, and each of them can have three groups
     * open. The groups of routes 0 and 1 move on by a step every 9 of time, those of 2 and 3 every 1.
     */
    private static void asManyGroupsAsCanBe() {
        CHECK.says("but if this step has 3 groups open, it THROWS 5 instead.");
        String slow = "a2,9".repeat(10);
        String quick = "a2,1".repeat(10);
        Engine x = CHECK.engine(slow, slow, quick, quick);
        for (int step = 0; step < 9; step++) {
            threeGroupsEach(x, 0, step);
            if (step < 8) {
                CHECK.due("pass", x.pass(9), 6 * (step + 1));
            }
        }
        CHECK.due("pass", x.pass(8), 0);
        threeGroupsEach(x, 2, 0);
        CHECK.due("pass", x.pass(1), 60);
        threeGroupsEach(x, 0, 9);
        for (int step = 1; step < 9; step++) {
            threeGroupsEach(x, 2, step);
            CHECK.due("pass", x.pass(1), 6 * (step + 1));
        }
        threeGroupsEach(x, 2, 9);
        CHECK.due("open groups", x.count(10), 120);
        CHECK.due("the time", x.count(8), 89);
        CHECK.due("send that would open one more", x.send(0, 1, 4), 6);
        CHECK.due("send that would open one more", x.send(3, 1, 4), 6);
        lookAtTheMostGroups(x);
        // The last step's 12 have nothing behind it; 100 of the others come to the next step.
        CHECK.due("pass that releases all", x.pass(1), 120);
        CHECK.due("completed", x.count(1), 12);
        CHECK.due("cut", x.count(7), 8);
        CHECK.due("open groups", x.count(10), 100);
    }

    private static void threeGroupsEach(Engine x, int r, int step) {
        for (int key = 1; key <= 3; key++) {
            CHECK.due("send", x.send(r, 10 * step + key, key), 3);
            CHECK.due("send", x.send(r + 1, 10 * step + key, key), 3);
        }
    }

    private static void lookAtTheMostGroups(Engine x) {
        int[] first = {1, 1, 1, 90};
        int[] last = {3, 93, 1, 90};
        for (int what = 0; what <= 3; what++) {
            CHECK.due("group(0, " + what + ")", x.group(0, what), first[what]);
            CHECK.due("group(119, " + what + ")", x.group(119, what), last[what]);
            CHECK.due("group(120, " + what + ")", x.group(120, what), 0);
        }
        for (int i = 0; i < 120; i++) {
            CHECK.due("group(" + i + ", 3)", x.group(i, 3), 90);
        }
    }

    private static void heldOfTheSize() {
        CHECK.says("when it holds as many as the size, all become READY in the order of their keys "
            + "(with the same key in the order in which they came), each with its body and key, "
            + "to begin behind this step in this route, and it holds none.");
        for (int size = 2; size <= 4; size++) {
            Engine x = CHECK.engine("q" + size + "!0");
            StringBuilder due = new StringBuilder();
            for (int round = 1; round <= 2; round++) {
                for (int i = 1; i < size; i++) {
                    CHECK.due("send", x.send(0, 10 * round + i, i), 3);
                    CHECK.due("held", x.count(11), i);
                    CHECK.due("delivered", x.delivered(0), (round - 1) * size);
                    due.append(10 * round + i).append('/').append(i).append(' ');
                }
                CHECK.due("send of the last", x.send(0, 10 * round + size, size), 3);
                due.append(10 * round + size).append('/').append(size).append(' ');
                CHECK.due("held", x.count(11), 0);
                CHECK.got(x, 0, due.toString().trim());
            }
            CHECK.counts(x, 4 * size + " " + 2 * size + " 0 " + 2 * size + " 0 0 0 0 0 0 0 0 0");
        }
    }

    private static void heldInTheOrderOfKeys() {
        CHECK.says("in the order of their keys (with the same key in the order in which they came)");
        int[][] keys = {
            {MOST, LEAST, 0, -1}, {1, 1, 1, 1}, {2, 1, 2, 1}, {4, 3, 2, 1}, {1, 2, 3, 4}, {5, 5, LEAST, 5}, {0, MOST, LEAST, MOST},
        };
        String[] orders = {"2 4 3 1", "1 2 3 4", "2 4 1 3", "4 3 2 1", "1 2 3 4", "3 1 2 4", "3 1 2 4"};
        for (int i = 0; i < keys.length; i++) {
            Engine x = CHECK.engine("q4!0");
            StringBuilder due = new StringBuilder();
            for (int body = 1; body <= 4; body++) {
                CHECK.due("send", x.send(0, body, keys[i][body - 1]), 3);
                int next = orders[i].charAt(2 * body - 2) - '0';
                due.append(body == 1 ? "" : " ").append(next).append('/').append(keys[i][next - 1]);
            }
            CHECK.got(x, 0, due.toString());
        }
    }
}
