/** Promises 2, 3 and 4: put, clear and read. */
public final class TextTest {
    private static final Check CHECK = new Check();

    public static void main(String[] args) {
        put();
        putAtMostForty();
        clear();
        routesRunAsRead();
        rightTexts();
        wrongCharacters();
        wrongNumbers();
        wrongLists();
        textsThatEndTooEarly();
        whichErrorIsFirst();
        leastRoute();
        wrongReadChangesNothing();
        rightReadEmpties();
        CHECK.end();
    }

    private static void put() {
        Engine x = new Engine();
        CHECK.no("put(-1)", x.put(-1, 'k'));
        CHECK.no("put(4)", x.put(4, 'k'));
        CHECK.no("put(least)", x.put(Integer.MIN_VALUE, 'k'));
        CHECK.no("put(most)", x.put(Integer.MAX_VALUE, 'k'));
        for (char c : new char[] {0, 9, 10, 32, 127, 128, 255, 256 + 'k', 65535}) {
            CHECK.no("put of " + (int) c, x.put(0, c));
        }
        CHECK.due("read after refused puts", x.read(), 0);
        CHECK.yes("put of 33", x.put(0, (char) 33));
        CHECK.yes("put of 48", x.put(0, (char) 48));
        CHECK.yes("put of 126", x.put(1, (char) 126));
        CHECK.due("read", x.read(), 200);
    }

    private static void putAtMostForty() {
        Engine x = new Engine();
        for (int r = 0; r < 4; r++) {
            for (int i = 0; i < 40; i++) {
                CHECK.yes("put", x.put(r, i % 2 == 0 ? '!' : (char) ('0' + r)));
            }
            CHECK.no("put as the 41st", x.put(r, 'k'));
        }
        CHECK.due("read", x.read(), 0);
        CHECK.due("send", x.send(2, 1, 1), 1);
        CHECK.due("delivered", x.delivered(2), 20);
        CHECK.due("delivered", x.delivered(1) + x.delivered(3), 0);
        CHECK.yes("clear", x.clear(3));
        for (int i = 0; i < 40; i++) {
            CHECK.yes("put", x.put(3, '+'));
        }
        CHECK.due("read", x.read(), 401);
        CHECK.yes("clear", x.clear(3));
        for (int i = 0; i < 39; i++) {
            CHECK.yes("put", x.put(3, 'k'));
        }
        CHECK.yes("put", x.put(3, '+'));
        CHECK.due("read", x.read(), 440);
    }

    private static void clear() {
        Engine x = new Engine();
        CHECK.no("clear(-1)", x.clear(-1));
        CHECK.no("clear(4)", x.clear(4));
        CHECK.no("clear(most)", x.clear(Integer.MAX_VALUE));
        CHECK.write(x, "x", "y", "z", ")");
        CHECK.due("read", x.read(), 100);
        for (int r = 0; r < 3; r++) {
            CHECK.yes("clear", x.clear(r));
            CHECK.due("read", x.read(), 100 * (r + 2));
        }
        CHECK.yes("clear", x.clear(3));
        CHECK.yes("clear of an empty text", x.clear(3));
        CHECK.due("read", x.read(), 0);
    }

    private static void routesRunAsRead() {
        Engine x = CHECK.engine("!0");
        CHECK.yes("put", x.put(0, 'x'));
        CHECK.due("send", x.send(0, 1, 1), 1);
        CHECK.due("delivered", x.delivered(0), 1);
        CHECK.yes("clear", x.clear(0));
        CHECK.due("send", x.send(0, 1, 1), 1);
        CHECK.due("delivered", x.delivered(0), 2);
        CHECK.due("read", x.read(), 0);
        CHECK.due("send", x.send(0, 1, 1), 1);
        CHECK.due("delivered", x.delivered(0), 2);
    }

    private static void rightTexts() {
        String[] texts = {
            "", "kbri", "+0-9999*0000", "?b<0()", "?k>1(k):(b)", "?b=0007(+1):()k", "?k%1(!0)", "fb<3fk%9999",
            "s1()", "s0004(s2(?b=1(k):(b)))", "&0&1&2&3", "!0!1!2!3", "!0003", "a2,1", "a4,99k", "a0003,0099",
            "q2q3q4", ">1>2>3", ">0003", "?b=1(s1(fk=2)):(s2())", "s1()s1()s1()s1()",
        };
        for (String text : texts) {
            CHECK.error(0, text, -1);
        }
        CHECK.error(1, ">2>3", -1);
        CHECK.error(2, ">3", -1);
    }

    private static void wrongCharacters() {
        CHECK.error(0, "x", 0);
        CHECK.error(0, ")", 0);
        CHECK.error(0, "k)", 1);
        CHECK.error(0, "(k)", 0);
        CHECK.error(0, "1", 0);
        CHECK.error(0, "k,", 1);
        CHECK.error(0, "+k", 1);
        CHECK.error(0, "+-1", 1);
        CHECK.error(0, "+12345", 5);
        CHECK.error(0, "fa<1", 1);
        CHECK.error(0, "fb!1", 2);
        CHECK.error(0, "fb<k", 3);
        CHECK.error(0, "?1", 1);
        CHECK.error(0, "?b<1k", 4);
        CHECK.error(0, "?b<1()(", 6);
        CHECK.error(0, "?b<1():k", 7);
        CHECK.error(0, "?b<1():():()", 9);
        CHECK.error(0, "s1():()", 4);
        CHECK.error(0, "sk", 1);
        CHECK.error(0, "s1k", 2);
        CHECK.error(0, "a2k", 2);
        CHECK.error(0, "a2,,", 3);
        CHECK.error(0, "q,", 1);
        CHECK.error(0, "k:(", 1);
        CHECK.error(0, "s2(k))", 5);
        CHECK.error(0, "K", 0);
        CHECK.error(0, "~", 0);
    }

    private static void wrongNumbers() {
        CHECK.error(0, "s0(", 1);
        CHECK.error(0, "s5(", 1);
        CHECK.error(0, "s11()", 1);
        CHECK.error(0, "&4", 1);
        CHECK.error(0, "!4", 1);
        CHECK.error(0, "!10", 1);
        CHECK.error(0, ">0", 1);
        CHECK.error(0, ">4", 1);
        CHECK.error(1, ">1", 1);
        CHECK.error(1, ">0", 1);
        CHECK.error(2, ">2", 1);
        CHECK.error(3, ">3", 1);
        CHECK.error(3, ">4", 1);
        CHECK.error(0, "a1,5", 1);
        CHECK.error(0, "a5,5", 1);
        CHECK.error(0, "a2,0", 3);
        CHECK.error(0, "a2,100", 3);
        CHECK.error(0, "q1", 1);
        CHECK.error(0, "q5", 1);
        CHECK.error(0, "fb%0", 3);
        CHECK.error(0, "fk%0000", 3);
        CHECK.error(0, "?b%0(", 3);
        CHECK.error(0, "kk!7", 3);
    }

    private static void wrongLists() {
        CHECK.error(0, "?b<1(a2,1)", 5);
        CHECK.error(0, "?b<1():(q2)", 8);
        CHECK.error(0, "s2(q2)", 3);
        CHECK.error(0, "s2(s2(a", 6);
        CHECK.error(0, "s2(s2(s2(s2(", 11);
        CHECK.error(0, "s2(s2(s2(?b<1(", 13);
        CHECK.error(0, "s1(s1(?b<1(k):(s1(", 17);
        CHECK.error(0, "s1(s1(s1()s1()?b<1():()))", -1);
        CHECK.error(0, "s1(s1(s1()s1()?b<1():(s1(", 24);
    }

    private static void textsThatEndTooEarly() {
        CHECK.error(0, "+", 1);
        CHECK.error(0, "?", 1);
        CHECK.error(0, "?b", 2);
        CHECK.error(0, "?b<", 3);
        CHECK.error(0, "?b<1", 4);
        CHECK.error(0, "?b<1(", 5);
        CHECK.error(0, "?b<1()", -1);
        CHECK.error(0, "?b<1():", 7);
        CHECK.error(0, "?b<1():(", 8);
        CHECK.error(0, "f", 1);
        CHECK.error(0, "fk", 2);
        CHECK.error(0, "fk=", 3);
        CHECK.error(0, "s", 1);
        CHECK.error(0, "s2", 2);
        CHECK.error(0, "s2(k", 4);
        CHECK.error(0, "a", 1);
        CHECK.error(0, "a2", 2);
        CHECK.error(0, "a2,", 3);
        CHECK.error(0, "q", 1);
        CHECK.error(0, "!", 1);
        CHECK.error(0, "&", 1);
        CHECK.error(0, ">", 1);
    }

    private static void whichErrorIsFirst() {
        CHECK.error(0, "s5", 1);
        CHECK.error(0, "s00011(", 5);
        CHECK.error(0, "s12345(", 1);
        CHECK.error(0, "a99999", 1);
        CHECK.error(0, "a00025", 5);
        CHECK.error(0, "a2,10000", 3);
        CHECK.error(0, "a2,00990", 7);
        CHECK.error(0, "!00012", 5);
        CHECK.error(0, "fb%00000", 3);
        CHECK.error(0, "s2(s2(s2(s5(", 10);
        CHECK.error(0, "s2(q9", 3);
        CHECK.error(0, "kxy", 1);
    }

    private static void leastRoute() {
        Engine x = new Engine();
        CHECK.write(x, "k", "kk+", "x", "kx");
        CHECK.due("read", x.read(), 203);
        CHECK.write(x, "k", "kk+1");
        CHECK.due("read", x.read(), 300);
        CHECK.write(x, "k", "kk+1", "");
        CHECK.due("read", x.read(), 401);
        CHECK.write(x, ":");
        CHECK.due("read", x.read(), 100);
    }

    private static void wrongReadChangesNothing() {
        Engine x = CHECK.engine("i&1!0", "a2,9", "q2");
        CHECK.due("send", x.send(0, 1, 2), 1);
        CHECK.due("send", x.send(1, 3, 4), 3);
        CHECK.due("send", x.send(2, 5, 6), 3);
        CHECK.write(x, "!1!1", "k", "k", "x");
        CHECK.due("read", x.read(), 400);
        CHECK.counts(x, "3 1 0 2 0 0 0 0 0 1 1 1 0");
        CHECK.due("send", x.send(0, 1, 2), 4);
        CHECK.due("send", x.send(0, 1, 3), 1);
        CHECK.due("delivered", x.delivered(0), 2);
        CHECK.due("delivered", x.delivered(1), 0);
        CHECK.groups(x, "4/3/1/9");
    }

    private static void rightReadEmpties() {
        Engine x = CHECK.engine("i&1!0", "a2,9!2", "q2!3");
        CHECK.yes("clause", x.clause(1, 0, 0, true, false));
        CHECK.yes("fail", x.fail(1, 1, 3));
        CHECK.due("pass", x.pass(4), 0);
        CHECK.due("send", x.send(0, 1, 2), 1);
        CHECK.due("send", x.send(1, 3, 4), 3);
        CHECK.due("send", x.send(2, 5, 6), 3);
        CHECK.counts(x, "3 1 0 2 0 0 0 0 4 1 1 1 0");
        CHECK.due("read", x.read(), 0);
        CHECK.counts(x, "3 1 0 2 0 0 0 0 4 0 0 0 0");
        CHECK.due("work", x.work(), -1);
        CHECK.due("group", x.group(0, 0), 0);
        CHECK.due("send of a key kept before", x.send(0, 1, 2), 1);
        CHECK.due("send to a group that is gone", x.send(1, 3, 4), 3);
        CHECK.groups(x, "4/3/1/13");
        CHECK.due("send behind one held before", x.send(2, 5, 6), 3);
        CHECK.due("delivered", x.delivered(2) + x.delivered(3), 0);
        CHECK.due("delivered", x.delivered(0), 2);
        CHECK.write(x, "!1");
        CHECK.due("read", x.read(), 0);
        CHECK.due("send, with clause and failure as before", x.send(0, 8, 9), 5);
        CHECK.got(x, 4, "8/9");
    }
}
