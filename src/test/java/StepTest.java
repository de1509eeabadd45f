/** Promise 8: send, with the steps as the terms say them. */
public final class StepTest {
    private static final Check CHECK = new Check();
    private static final int LEAST = Integer.MIN_VALUE;
    private static final int MOST = Integer.MAX_VALUE;

    public static void main(String[] args) {
        wrongRoutes();
        sums();
        bodyAndKey();
        tests();
        choices();
        filters();
        splits();
        partsThatEnd();
        otherRoutes();
        copies();
        deliveries();
        duplicates();
        duplicatesOfOneStep();
        hundredAttempts();
        cutParts();
        attemptsOfInnerSteps();
        CHECK.end();
    }

    private static void wrongRoutes() {
        Engine x = CHECK.engine("!0", "!1", "!2", "!3");
        for (int r : new int[] {-1, 4, LEAST, MOST}) {
            CHECK.due("send(" + r + ")", x.send(r, 1, 1), -1);
        }
        CHECK.counts(x, "0 0 0 0 0 0 0 0 0 0 0 0 0");
        for (int r = 0; r < 4; r++) {
            CHECK.due("send", x.send(r, 10 + r, 20 + r), 1);
            CHECK.got(x, r, (10 + r) + "/" + (20 + r));
        }
    }

    private static void sums() {
        CHECK.makes("", 3, 4, "3/4");
        CHECK.makes("+5", 3, 4, "8/4");
        CHECK.makes("-5", 3, 4, "-2/4");
        CHECK.makes("*5", 3, 4, "15/4");
        CHECK.makes("+9999", 1, 0, "10000/0");
        CHECK.makes("*0", 77, 0, "0/0");
        CHECK.makes("+0012-0002*0003", 0, 0, "30/0");
        CHECK.makes("+1", MOST, 0, LEAST + "/0");
        CHECK.makes("-1", LEAST, 0, MOST + "/0");
        CHECK.makes("*2", MOST, 0, "-2/0");
        CHECK.makes("*9999", 1000000, 0, (1000000 * 9999) + "/0");
    }

    private static void bodyAndKey() {
        CHECK.makes("k", 3, 4, "3/3");
        CHECK.makes("b", 3, 4, "4/4");
        CHECK.makes("+1k+1", 3, 4, "5/4");
    }

    private static void tests() {
        CHECK.makes("?b<5(+100)", 4, 0, "104/0");
        CHECK.makes("?b<5(+100)", 5, 0, "5/0");
        CHECK.makes("?b<5(+100)", LEAST, 0, (LEAST + 100) + "/0");
        CHECK.makes("?b>5(+100)", 5, 0, "5/0");
        CHECK.makes("?b>5(+100)", 6, 0, "106/0");
        CHECK.makes("?b=5(+100)", 5, 0, "105/0");
        CHECK.makes("?b=5(+100)", 4, 5, "4/5");
        CHECK.makes("?b%5(+100)", 10, 0, "110/0");
        CHECK.makes("?b%5(+100)", 11, 0, "11/0");
        CHECK.makes("?b%5(+100)", -10, 0, "90/0");
        CHECK.makes("?b%5(+100)", -11, 0, "-11/0");
        CHECK.makes("?b%5(+100)", 0, 1, "100/1");
        CHECK.makes("?b%1(+100)", 7, 0, "107/0");
        CHECK.makes("?k<5(+100)", 9, 4, "109/4");
        CHECK.makes("?k>5(+100)", 0, 6, "100/6");
        CHECK.makes("?k=9999(+100)", 0, 9999, "100/9999");
        CHECK.makes("?k%4(+100)", 3, 8, "103/8");
        CHECK.makes("?k%4(+100)", 8, 3, "8/3");
    }

    private static void choices() {
        CHECK.makes("?b<5(+1):(+2)+10", 4, 0, "15/0");
        CHECK.makes("?b<5(+1):(+2)+10", 5, 0, "17/0");
        CHECK.makes("?b<5():(+2)+10", 4, 0, "14/0");
        CHECK.makes("?b<5(+1):()+10", 5, 0, "15/0");
        CHECK.makes("?b<5(?k<5(+1):(+2)):(?k<5(+3):(+4))", 4, 4, "5/4");
        CHECK.makes("?b<5(?k<5(+1):(+2)):(?k<5(+3):(+4))", 4, 5, "6/5");
        CHECK.makes("?b<5(?k<5(+1):(+2)):(?k<5(+3):(+4))", 5, 4, "8/4");
        CHECK.makes("?b<5(?k<5(+1):(+2)):(?k<5(+3):(+4))", 5, 5, "9/5");
        CHECK.makes("?b=1(+1)?b=2(+1)?b=3(+1)", 1, 0, "4/0");
    }

    private static void filters() {
        Engine x = CHECK.engine("fb<5!0fk%3!1", "?b<5(fb<3!0)!1");
        CHECK.due("send", x.send(0, 4, 6), 1);
        CHECK.due("send", x.send(0, 5, 6), 2);
        CHECK.due("send", x.send(0, 4, 7), 2);
        CHECK.got(x, 0, "4/6 4/7");
        CHECK.got(x, 1, "4/6");
        CHECK.due("send that ends in the list", x.send(1, 4, 9), 2);
        CHECK.due("send", x.send(1, 5, 9), 1);
        CHECK.got(x, 1, "4/6 5/9");
        CHECK.counts(x, "5 2 3 0 0 0 0 0 0 0 0 0 0");
    }

    private static void splits() {
        Engine x = CHECK.engine("s4(!0)!1");
        CHECK.due("send", x.send(0, 10, 7), 1);
        CHECK.got(x, 0, "2/7 2/7 3/7 3/7");
        CHECK.got(x, 1, "10/7");
        CHECK.due("send", x.send(0, -10, 7), 1);
        CHECK.got(x, 0, "2/7 2/7 3/7 3/7 -3/7 -3/7 -2/7 -2/7");
        CHECK.due("send of the most", x.send(0, MOST, 7), 1);
        CHECK.got(x, 0, "-3/7 -3/7 -2/7 -2/7 536870911/7 -536870912/7 -536870912/7 -536870912/7");
        CHECK.counts(x, "15 15 0 0 0 0 0 0 0 0 0 0 0");
        CHECK.makes("s1(+3)", 5, 6, "8/6");
        CHECK.makes("s2()", 5, 6, "5/6");
        CHECK.makes("s3(k)", 10, 6, "10/6");
        CHECK.makes("s2(*5)", 5, 6, "25/6");
        CHECK.makes("s2(s2(+1))", 4, 0, "8/0");
    }

    private static void partsThatEnd() {
        Engine x = CHECK.engine("s3(fb>3!0)!1", "s2(fk=9)!2", "s3(>3)!3", "a3,9!0");
        CHECK.due("send", x.send(0, 10, 5), 1);
        CHECK.got(x, 0, "4/5");
        CHECK.got(x, 1, "4/5");
        CHECK.due("send of which no part is completed", x.send(1, 10, 5), 1);
        CHECK.got(x, 2, "0/5");
        CHECK.due("send of which all parts are merged", x.send(2, 10, 5), 1);
        CHECK.got(x, 3, "0/5");
        CHECK.got(x, 0, "4/5 10/5");
        CHECK.counts(x, "12 5 4 3 0 0 0 0 0 0 0 0 0");
    }

    private static void otherRoutes() {
        Engine x = CHECK.engine("+1>2+1!0", "!1", "*2>3fb<50", "?b>30(+100)k");
        CHECK.due("send", x.send(0, 4, 5), 1);
        CHECK.got(x, 0, "11/10");
        CHECK.due("send that ends in the other route", x.send(0, 24, 5), 2);
        CHECK.got(x, 0, "11/10");
        CHECK.counts(x, "2 1 1 0 0 0 0 0 0 0 0 0 0");
        Engine y = CHECK.engine("s1(s1(s1(+1>1)))!0", "s1(s1(s1(+1>2)))", "s1(s1(s1(+1>3)))", "s1(s1(s1(+1!1)))");
        CHECK.due("send through lists as deep as can be", y.send(0, 60, 5), 1);
        CHECK.got(y, 0, "64/5");
        CHECK.got(y, 1, "64/5");
        CHECK.counts(y, "13 13 0 0 0 0 0 0 0 0 0 0 0");
    }

    private static void copies() {
        Engine x = CHECK.engine("&1+1&3!0", "!1", "", "!3");
        CHECK.due("send", x.send(0, 4, 5), 1);
        CHECK.counts(x, "1 1 0 0 0 0 0 0 0 2 0 0 0");
        CHECK.due("work", x.work(), 1);
        CHECK.got(x, 1, "4/5");
        CHECK.due("work", x.work(), 1);
        CHECK.got(x, 3, "5/5");
        for (int i = 0; i < 4; i++) {
            CHECK.due("send", x.send(0, i, i), 1);
        }
        CHECK.due("count", x.count(9), 8);
        CHECK.due("send with a full queue", x.send(0, 9, 9), 6);
        CHECK.due("count", x.count(9), 8);
        CHECK.due("delivered", x.delivered(0), 5);
        CHECK.yes("clause for half of 6", x.clause(3, 0, 0, true, false));
        CHECK.due("send with a full queue", x.send(0, 9, 9), 5);
        CHECK.due("work", x.work(), 1);
        CHECK.due("send with room for one", x.send(0, 9, 9), 5);
        CHECK.got(x, 4, "9/9 10/9");
        CHECK.due("count", x.count(9), 8);
    }

    private static void deliveries() {
        Engine x = CHECK.engine("!2", "r+1!3");
        CHECK.due("send", x.send(0, 6, 7), 1);
        CHECK.got(x, 2, "6/7");
        CHECK.due("send", x.send(1, 1, 5), 1);
        CHECK.due("send", x.send(1, 2, 16), 1);
        CHECK.due("send", x.send(1, 3, -6), 1);
        CHECK.got(x, 0, "1/5");
        CHECK.got(x, 1, "3/-6");
        CHECK.got(x, 2, "6/7 1/5");
        CHECK.got(x, 3, "2/5 3/16 3/-6 4/-6");
        CHECK.yes("fail", x.fail(1, 1, 3));
        CHECK.due("send whose second delivery throws", x.send(1, 8, 15), 6);
        CHECK.got(x, 0, "1/5 8/15");
        CHECK.due("delivered", x.delivered(2), 2);
        CHECK.due("delivered", x.delivered(3), 4);
    }

    private static void duplicates() {
        Engine x = CHECK.engine("i!0");
        for (int key : new int[] {1, 2, 3, 4}) {
            CHECK.due("send", x.send(0, 0, key), 1);
        }
        for (int key : new int[] {1, 4, 2, 3}) {
            CHECK.due("send of a kept key", x.send(0, 0, key), 4);
        }
        CHECK.due("send of a fifth key", x.send(0, 0, 5), 1);
        CHECK.due("send", x.send(0, 0, 2), 4);
        CHECK.due("send of the key kept first", x.send(0, 0, 1), 1);
        CHECK.due("send of the second key", x.send(0, 0, 2), 1);
        CHECK.due("send", x.send(0, 0, 4), 4);
        CHECK.due("delivered", x.delivered(0), 7);
        CHECK.counts(x, "13 7 0 0 6 0 0 0 0 0 0 0 0");
    }

    private static void duplicatesOfOneStep() {
        Engine x = CHECK.engine("i?b=1(>2)", "i>2", "i!0");
        CHECK.due("send", x.send(0, 1, 7), 1);
        CHECK.due("send by another way to the same step", x.send(1, 1, 7), 4);
        CHECK.due("send that the first step ends", x.send(0, 0, 7), 4);
        CHECK.due("send of key 0", x.send(0, 0, 0), 1);
        Engine y = CHECK.engine("ii!0");
        CHECK.due("send through two steps", y.send(0, 1, 7), 1);
        Engine z = CHECK.engine(">1>1", "i");
        CHECK.due("send twice through one step", z.send(0, 1, 7), 4);
    }

    private static void hundredAttempts() {
        // 20 deliveries of route 3 and the step >3 make 21 attempts each.
        Engine x = CHECK.engine(">3>3>3>3!0kkkkkkkkkkkkkkk", ">3>3>3>3!0kkkkkkkkkkkkkkkk", "",
            "!1!1!1!1!1!1!1!1!1!1!1!1!1!1!1!1!1!1!1!1");
        CHECK.due("send of 100 attempts", x.send(0, 1, 1), 1);
        CHECK.due("send of 101 attempts", x.send(1, 1, 1), 7);
        CHECK.due("delivered", x.delivered(0), 2);
        CHECK.due("delivered", x.delivered(1), 160);
        CHECK.counts(x, "2 1 0 0 0 0 0 1 0 0 0 0 0");
    }

    private static void cutParts() {
        // The first >1 takes 86 attempts. Of the second one's 14 the last is at the s of part 0.2.
        Engine x = CHECK.engine(">1>1", "s4(s4(s4(+1)))");
        CHECK.due("send", x.send(0, 0, 0), 1);
        CHECK.counts(x, "105 97 0 0 0 0 0 8 0 0 0 0 0");
        // The same, but now a step is left for the exchange itself.
        Engine y = CHECK.engine(">1>1k", "s4(s4(s4(+1)))");
        CHECK.due("send", y.send(0, 0, 0), 7);
        CHECK.counts(y, "105 96 0 0 0 0 0 9 0 0 0 0 0");
        Engine z = CHECK.engine(">1>1>1", "s1(kkkkkkkkkkkkkkkkkkkkkkkkkkkkkkkkk)");
        CHECK.due("send of 105 attempts", z.send(0, 9, 0), 1);
        CHECK.counts(z, "4 3 0 0 0 0 0 1 0 0 0 0 0");
    }

    private static void attemptsOfInnerSteps() {
        // A run of route 3 takes 11 attempts: one at >3, five at ? and five at k.
        Engine x = CHECK.engine(">3>3>3>3>3>3>3>3>3!0", ">3>3>3>3>3>3>3>3>3!1!0", "",
            "?b<9(k)?b<9(k)?b<9(k)?b<9(k)?b<9(k)");
        CHECK.due("send of 100 attempts", x.send(0, 1, 1), 1);
        CHECK.due("send of 101 attempts", x.send(1, 1, 1), 7);
        CHECK.due("delivered", x.delivered(0), 1);
        CHECK.due("delivered", x.delivered(1), 1);
        // A part that has no step to attempt is completed, however many attempts were made.
        Engine y = CHECK.engine(">3>3>3>3>3>3>3>3>3s4()", "", "", "?b<9(k)?b<9(k)?b<9(k)?b<9(k)?b<9(k)");
        CHECK.due("send", y.send(0, 1, 1), 1);
        CHECK.counts(y, "5 5 0 0 0 0 0 0 0 0 0 0 0");
    }
}
