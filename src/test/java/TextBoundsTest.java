import java.util.ArrayList;
import java.util.List;

/**
 * The bounds that the document names for texts, and in promises 2, 3 and 4. Each test stands
 * beside the words that it tests, on both sides of the bound. That a refused call changes
 * nothing is tested by RefusedTest too.
 */
public final class TextBoundsTest {
    private static final Check CHECK = new Check();
    private static final int RIGHT = Check.RIGHT;
    private static final String DIGITS = "0123456789";
    private static final String STEPS = "+-*kb?fs>&!riaq";
    private static final String INNER = "+-*kb?fs>&!ri)";
    private static final String[] OPENINGS = {"s1(", "?b<1(", "?k=2():("};

    public static void main(String[] args) {
        longestText();
        emptyLists();
        oneToFourDigits();
        numbersWithoutBounds();
        testsOfReading();
        splitSize();
        higherRoutes();
        copyRoutes();
        deliveryEndpoints();
        gatheringSizeAndWait();
        orderingSize();
        waitingStepsInside();
        parenthesesThreeDeep();
        fourthParenthesis();
        charactersThatMayNotStand();
        fifthDigit();
        firstDigitOfWrongNumber();
        textsThatEndWhereTheyMayNot();
        numberIsLookedAtFirst();
        placesFromZero();
        putCharacters();
        putRoutes();
        putBeforeRead();
        clearRoutes();
        clearFullText();
        readAnswers();
        readLeastRoute();
        readEmptiesTheFullest();
        readKeepsTheRest();
        readOfErrorChangesNothing();
        CHECK.end();
    }

    private static void longestText() {
        CHECK.says("Each of the routes 0 .. 3 has a text of at most 40 characters.");
        for (int r = 0; r <= 3; r++) {
            Engine x = new Engine();
            CHECK.append(x, r, "+1".repeat(19) + "!");
            CHECK.due("read() of 39 characters", x.read(), 100 * (r + 1) + 39);
            CHECK.yes("put as the 40th", x.put(r, (char) ('0' + r)));
            CHECK.due("read() of 40 characters", x.read(), 0);
            CHECK.no("put as the 41st", x.put(r, 'k'));
            CHECK.no("put as the 41st", x.put(r, '7'));
            CHECK.due("read()", x.read(), 0);
            CHECK.due("send", x.send(r, 0, 5), 1);
            CHECK.got(x, r, "19/5");
            int other = (r + 1) % 4;
            CHECK.due("send through a route whose text is empty", x.send(other, 0, 5), 1);
            CHECK.counts(x, "2 2 0 0 0 0 0 0 0 0 0 0 0");
            CHECK.yes("put to another text", x.put(other, 'x'));
            CHECK.due("read()", x.read(), 100 * (other + 1));
        }
        Engine y = CHECK.engine("!0".repeat(20), "!1".repeat(20), "!2".repeat(20), "!3".repeat(20));
        for (int r = 0; r <= 3; r++) {
            CHECK.no("put as the 41st", y.put(r, 'k'));
            CHECK.due("send", y.send(r, 1, 2), 1);
            CHECK.due("delivered", y.delivered(r), 20);
        }
    }

    private static void emptyLists() {
        CHECK.says("A text is a list of steps (perhaps none) written one after the other, without anything between them.");
        CHECK.error(0, "", RIGHT);
        CHECK.error(0, "k", RIGHT);
        CHECK.makes("?b<5()", 4, 1, "4/1");
        CHECK.makes("?b<5()", 5, 1, "5/1");
        CHECK.makes("?b<5():()", 5, 1, "5/1");
        CHECK.makes("s1()", 5, 1, "5/1");
        CHECK.makes("s4(s4(s4()))", 7, 1, "7/1");
        for (char between : ",;.:_|".toCharArray()) {
            CHECK.error(0, "k" + between + "k", 1);
        }
    }

    /** Wherever a number stands: what is before it, a right one of one digit, what comes behind. */
    private static final String[][] NUMBERS = {
        {"+", "7", ""}, {"-", "7", ""}, {"*", "7", ""}, {"fb<", "7", ""}, {"fk>", "7", ""}, {"fb=", "7", ""},
        {"fk%", "7", ""}, {"?k<", "7", "()"}, {"?b>", "7", "(k):(b)"}, {"?k=", "7", "()"}, {"?b%", "7", "()"},
        {"s", "3", "()"}, {">", "2", ""}, {"&", "3", ""}, {"!", "3", ""}, {"a", "3", ",7"}, {"a3,", "7", ""},
        {"q", "3", ""},
    };

    private static void oneToFourDigits() {
        CHECK.says("N stands for 1 to 4 digits (as many as there are, but at most 4)");
        for (String[] n : NUMBERS) {
            int first = n[0].length();
            CHECK.error(0, n[0] + n[2], first);
            CHECK.error(0, n[0] + n[2] + "k", first);
            for (int zeros = 0; zeros <= 3; zeros++) {
                CHECK.error(0, n[0] + "0".repeat(zeros) + n[1] + n[2], RIGHT);
            }
            CHECK.error(0, n[0] + "000" + n[1] + "0" + n[2], first + 4);
        }
        CHECK.makes("+9", 0, 1, "9/1");
        CHECK.makes("+98", 0, 1, "98/1");
        CHECK.makes("+987", 0, 1, "987/1");
        CHECK.makes("+9876", 0, 1, "9876/1");
        CHECK.makes("+0006", 0, 1, "6/1");
        CHECK.makes("+6000", 0, 1, "6000/1");
        CHECK.makes("?b=9876(+1)", 9876, 1, "9877/1");
        CHECK.makes("?b=9876(+1)", 987, 1, "987/1");
    }

    /** Of the numbers that are tried exactly those from least to most are right. */
    private static void range(int r, String before, String behind, int least, int most) {
        for (int n = 0; n <= 9999; n += n < 120 ? 1 : 4 * n / 5 + 7) {
            CHECK.error(r, before + n + behind, n >= least && n <= most ? RIGHT : before.length());
        }
        boolean highest = most == 9999;
        CHECK.error(r, before + "9999" + behind, highest ? RIGHT : before.length());
        CHECK.error(r, before + "1000" + behind, highest ? RIGHT : before.length());
    }

    private static void numbersWithoutBounds() {
        CHECK.says("+N -N *N the body becomes body + N, body - N, body * N");
        for (String step : new String[] {"+", "-", "*"}) {
            range(0, step, "", 0, 9999);
        }
        CHECK.makes("+0", 5, 1, "5/1");
        CHECK.makes("+9999", 5, 1, "10004/1");
        CHECK.makes("-0", 5, 1, "5/1");
        CHECK.makes("-9999", 5, 1, "-9994/1");
        CHECK.makes("*0", 5, 1, "0/1");
        CHECK.makes("*1", 5, 1, "5/1");
        CHECK.makes("*9999", 5, 1, "49995/1");
    }

    private static void testsOfReading() {
        CHECK.says("less than N, greater than N, N, or divided by N without a rest (N is not 0 then)");
        for (String what : new String[] {"b", "k"}) {
            for (String relation : new String[] {"<", ">", "=", "%"}) {
                int least = relation.equals("%") ? 1 : 0;
                range(0, "f" + what + relation, "", least, 9999);
                range(0, "?" + what + relation, "()", least, 9999);
            }
        }
        for (String zero : new String[] {"0", "00", "000", "0000"}) {
            CHECK.error(0, "fb%" + zero, 3);
            CHECK.error(0, "?k%" + zero + "()", 3);
            CHECK.error(0, "fb=" + zero, RIGHT);
        }
    }

    private static void splitSize() {
        CHECK.says("sN(LIST) N is 1 .. 4");
        range(0, "s", "()", 1, 4);
        range(3, "s", "(k)", 1, 4);
        range(0, "s2(s", "())", 1, 4);
    }

    private static void higherRoutes() {
        CHECK.says(">N N is the number of a route, higher than that of the route it is written in");
        for (int r = 0; r <= 3; r++) {
            range(r, ">", "", r + 1, 3);
            range(r, "s1(>", ")", r + 1, 3);
        }
        Engine x = CHECK.engine(">1>2>3", ">2>3", ">3", "!0");
        CHECK.due("send", x.send(0, 1, 1), 1);
        CHECK.due("delivered", x.delivered(0), 4);
    }

    private static void copyRoutes() {
        CHECK.says("&N N is 0 .. 3: a copy of body and key goes to the end of the QUEUE, for route N");
        for (int r = 0; r <= 3; r++) {
            range(r, "&", "", 0, 3);
        }
        Engine x = CHECK.engine("&0!0", "&1!1", "&2!2", "&3!3");
        for (int r = 0; r <= 3; r++) {
            CHECK.due("send", x.send(r, 1, 1), 1);
        }
        for (int r = 0; r <= 3; r++) {
            CHECK.due("work", x.work(), 1);
            CHECK.due("delivered", x.delivered(r), 2);
        }
    }

    private static void deliveryEndpoints() {
        CHECK.says("!N N is 0 .. 3: a DELIVERY to endpoint N");
        range(0, "!", "", 0, 3);
        range(2, "s1(!", ")", 0, 3);
        Engine x = CHECK.engine("!0+1!1+1!2+1!3");
        CHECK.due("send", x.send(0, 6, 5), 1);
        for (int d = 0; d <= 3; d++) {
            CHECK.got(x, d, (6 + d) + "/5");
        }
        CHECK.due("dead letters", x.delivered(4), 0);
    }

    private static void gatheringSizeAndWait() {
        CHECK.says("aN,N the first N is 2 .. 4 (the size), the second 1 .. 99 (the wait)");
        range(0, "a", ",1", 2, 4);
        range(3, "a", ",99", 2, 4);
        range(0, "a2,", "", 1, 99);
        range(3, "ka4,", "k", 1, 99);
    }

    private static void orderingSize() {
        CHECK.says("qN N is 2 .. 4 (the size)");
        range(0, "q", "", 2, 4);
        range(3, "kq", "k", 2, 4);
    }

    private static void waitingStepsInside() {
        CHECK.says("The steps a and q may not stand inside parentheses");
        for (String waiting : new String[] {"a2,1", "q2"}) {
            CHECK.error(0, waiting, RIGHT);
            CHECK.error(0, "s1()" + waiting, RIGHT);
            CHECK.error(0, "?b<1(k)" + waiting + waiting, RIGHT);
            CHECK.error(0, "?b<1(k):(s1(s1()))" + waiting, RIGHT);
            for (String first : OPENINGS) {
                CHECK.error(0, first + waiting + ")", first.length());
                CHECK.error(0, first + "k" + waiting + ")", first.length() + 1);
                for (String second : OPENINGS) {
                    CHECK.error(0, first + second + waiting + "))", first.length() + second.length());
                    CHECK.error(0, first + second + ")" + waiting, first.length() + second.length() + 1);
                    CHECK.error(0, first + second + "s1(" + waiting, first.length() + second.length() + 3);
                }
            }
        }
        CHECK.says("an a or q inside parentheses");
        CHECK.error(0, "s1(a", 3);
        CHECK.error(0, "s1(q", 3);
        CHECK.error(0, "s1(a9,0", 3);
        CHECK.error(0, "s1(q9", 3);
        CHECK.error(0, "a9,0", 1);
        CHECK.error(0, "q9", 1);
    }

    /** All ways to open three parentheses. */
    private static List<String> threeOpenings() {
        List<String> all = new ArrayList<>();
        for (String first : OPENINGS) {
            for (String second : OPENINGS) {
                for (String third : OPENINGS) {
                    all.add(first + second + third);
                }
            }
        }
        return all;
    }

    private static void parenthesesThreeDeep() {
        CHECK.says("parentheses may not stand more than 3 deep.");
        for (String three : threeOpenings()) {
            CHECK.error(0, three + "k)))k", RIGHT);
            CHECK.error(0, three + ")s1()))", RIGHT);
            CHECK.error(0, three + ")?b<1():(k)))", RIGHT);
            CHECK.error(0, three + "))s1(s1(k)))", RIGHT);
        }
        Engine x = CHECK.engine("s1(s1(s1(+1>1)))!0", "s1(s1(s1(+1>2)))", "s1(s1(s1(+1>3)))", "s1(s1(s1(+1!1)))");
        CHECK.due("send through the deepest that can be written", x.send(0, 60, 5), 1);
        CHECK.got(x, 1, "64/5");
        CHECK.got(x, 0, "64/5");
        CHECK.counts(x, "13 13 0 0 0 0 0 0 0 0 0 0 0");
        Engine y = CHECK.engine("?b%1(?b%1(?b%1(+1>1)))!0", "?b=0():(?b%1(?b%1(+1>2)))",
            "?b%1(?b=0():(?b%1(+1>3)))", "?b%1(?b%1(?b=0():(+1)))");
        CHECK.due("send", y.send(0, 60, 5), 1);
        CHECK.got(y, 0, "64/5");
    }

    private static void fourthParenthesis() {
        CHECK.says("a ( that would be the fourth deep");
        for (String three : threeOpenings()) {
            CHECK.error(0, three + "s1(", three.length() + 2);
            CHECK.error(0, three + "ks1()", three.length() + 3);
            CHECK.error(0, three + "?b<1(k))))", three.length() + 4);
            CHECK.error(0, three + ")s1(s4()", three.length() + 6);
            CHECK.error(0, three + ")?b<1():(s4()", three.length() + 11);
            CHECK.error(0, three + "))s1(s1(s1(", three.length() + 10);
        }
    }

    /** Of the characters 33 .. 126 exactly these may stand behind the text. */
    private static void mayFollow(int r, String text, String characters) {
        int error = 100 * (r + 1) + text.length();
        for (char c = 33; c <= 126; c++) {
            Engine x = new Engine();
            CHECK.append(x, r, text + c);
            boolean refused = x.read() == error;
            CHECK.due("error at the " + c + " of " + text + c, refused ? 1 : 0, characters.indexOf(c) < 0 ? 1 : 0);
        }
    }

    private static void charactersThatMayNotStand() {
        CHECK.says("a character that may not stand where it stands");
        for (String whole : new String[] {"", "k", "b", "r", "i", "s1()", "s4(k)", "?b<1():()", "?b<1(k):(k)"}) {
            mayFollow(0, whole, STEPS);
        }
        for (String opened : new String[] {"s1(", "?b<1(", "?k%9():(", "s1(k", "s1(s1(s1(", "s1(s1(s1()", "s1(?b<1():()"}) {
            mayFollow(0, opened, INNER);
        }
        mayFollow(0, "?b<1()", STEPS + ":");
        mayFollow(0, "s1(?b<1()", INNER + ":");
        mayFollow(0, "?b<1():", "(");
        mayFollow(0, "f", "bk");
        mayFollow(0, "?", "bk");
        mayFollow(0, "fb", "<>=%");
        mayFollow(0, "?k", "<>=%");
        for (String number : new String[] {"+", "-", "*", "fb<", "fk>", "?b=", "?k<"}) {
            mayFollow(0, number, DIGITS);
        }
        mayFollow(0, "fb%", "123456789");
        mayFollow(0, "?k%", "123456789");
        mayFollow(0, "s", "1234");
        mayFollow(0, ">", "123");
        mayFollow(1, ">", "23");
        mayFollow(2, ">", "3");
        mayFollow(3, ">", "");
        mayFollow(3, "&", "0123");
        mayFollow(3, "!", "0123");
        mayFollow(0, "a", "234");
        mayFollow(0, "a2,", "123456789");
        mayFollow(0, "q", "234");
    }

    private static void fifthDigit() {
        CHECK.says("(also a fifth digit)");
        for (String digits : new String[] {"1", "12", "123"}) {
            mayFollow(0, "+" + digits, STEPS + DIGITS);
            mayFollow(0, "fk=" + digits, STEPS + DIGITS);
            mayFollow(0, "?k=" + digits, "(" + DIGITS);
        }
        mayFollow(0, "+1234", STEPS);
        mayFollow(0, "-0000", STEPS);
        mayFollow(0, "*9999", STEPS);
        mayFollow(0, "fk=1234", STEPS);
        mayFollow(0, "?k=1234", "(");
        mayFollow(0, "s0004", "(");
        mayFollow(0, ">0003", STEPS);
        mayFollow(0, "&0000", STEPS);
        mayFollow(0, "!0003", STEPS);
        mayFollow(0, "a0002", ",");
        mayFollow(0, "a2,0099", STEPS);
        mayFollow(0, "q0004", STEPS);
        mayFollow(0, "s1(+1234", INNER);
    }

    private static void firstDigitOfWrongNumber() {
        CHECK.says("the first digit of a number that is not as said above");
        CHECK.error(0, "s0005()", 1);
        CHECK.error(0, "kks10()", 3);
        CHECK.error(0, "!0004", 1);
        CHECK.error(0, "&0014", 1);
        CHECK.error(0, ">0000", 1);
        CHECK.error(0, "a0001,7", 1);
        CHECK.error(0, "a0004,0100", 6);
        CHECK.error(0, "a4,0000", 3);
        CHECK.error(0, "q0014", 1);
        CHECK.error(0, "s1(fb%000)", 6);
    }

    /** A mark below each place: x if the text may not end before it, a dot if it may. */
    private static void ends(String text, String marks) {
        CHECK.due("marks", marks.length(), text.length() + 1);
        for (int length = 0; length <= text.length(); length++) {
            CHECK.error(0, text.substring(0, length), marks.charAt(length) == 'x' ? length : RIGHT);
        }
    }

    private static void textsThatEndWhereTheyMayNot() {
        CHECK.says("if the text ends where it may not end, the place behind its last character");
        ends("+12-3*4k",
            ".x..x.x..");
        ends("fb<12fk%3r",
            ".xxx..xxx..");
        ends("?b>12(k)i",
            ".xxxxxxx..");
        ends("?k=1(+1!0):(b&3)r",
            ".xxxxxxxxx.xxxxx..");
        ends("s2(s3(?b<1(k)))b",
            ".xxxxxxxxxxxxxx..");
        ends("a2,99a4,1",
            ".xxx..xxx.");
        ends("q4q2>1!3&0i",
            ".x.x.x.x.x..");
        CHECK.error(0, "k".repeat(38) + "+", 39);
        CHECK.error(0, "k".repeat(39) + "+", 40);
        CHECK.error(0, "k".repeat(38) + "+1", RIGHT);
        CHECK.error(3, "k".repeat(39) + "+", 40);
        CHECK.error(0, "s1(" + "k".repeat(37), 40);
        CHECK.error(0, "s1(" + "k".repeat(36) + ")", RIGHT);
        CHECK.error(0, "k".repeat(33) + "?b<1():", 40);
        CHECK.error(0, "k".repeat(34) + "?b<1()", RIGHT);
    }

    private static void numberIsLookedAtFirst() {
        CHECK.says("Whichever of these the reader comes to first: "
            + "a number is looked at as soon as its last digit was read (its fourth, if there are more: "
            + "a fifth one is the error only when these were right)");
        CHECK.error(0, "s5", 1);
        CHECK.error(0, "s4", 2);
        CHECK.error(0, "s5x", 1);
        CHECK.error(0, "s4x", 2);
        CHECK.error(0, "s1(s1(s1(s5(", 10);
        CHECK.error(0, "s1(s1(s1(s4(", 11);
        CHECK.error(0, "s00041()", 5);
        CHECK.error(0, "s00051()", 1);
        CHECK.error(0, "s00001()", 1);
        CHECK.error(0, "!00034", 5);
        CHECK.error(0, "!00040", 1);
        CHECK.error(0, "&00000", 5);
        CHECK.error(0, ">00001", 1);
        CHECK.error(0, ">00010", 5);
        CHECK.error(0, "a00029,1", 5);
        CHECK.error(0, "a00019,1", 1);
        CHECK.error(0, "a2,00991", 7);
        CHECK.error(0, "a2,01001", 3);
        CHECK.error(0, "a2,100", 3);
        CHECK.error(0, "a5x", 1);
        CHECK.error(0, "a4x", 2);
        CHECK.error(0, "a5,0", 1);
        CHECK.error(0, "q00045", 5);
        CHECK.error(0, "q00054", 1);
        CHECK.error(0, "fb%00001", 3);
        CHECK.error(0, "fb%00010", 7);
        CHECK.error(0, "fb<00000", 7);
        // Of two errors the first one, whichever kinds they are.
        String[] kinds = {"x", "!4", "s1(q", "s1(s1(s1(s1(", "+12345", "f"};
        int[] places = {0, 1, 3, 11, 5, 1};
        for (int i = 0; i < kinds.length; i++) {
            for (String second : kinds) {
                CHECK.error(0, "kk" + kinds[i] + second, 2 + places[i]);
            }
        }
    }

    private static void placesFromZero() {
        CHECK.says("Places are counted from 0.");
        for (int r = 0; r <= 3; r++) {
            for (int place = 0; place < 40; place++) {
                CHECK.error(r, "k".repeat(place) + "x" + "y".repeat(39 - place), place);
            }
            CHECK.error(r, "k".repeat(40), RIGHT);
            CHECK.error(r, "k".repeat(39) + "f", 40);
        }
    }

    private static void putCharacters() {
        CHECK.says("False, changing nothing, when r is not 0 .. 3, c is not 33 .. 126 or the text has 40.");
        Engine x = new Engine();
        for (int c = 0; c <= 65535; c++) {
            if (x.callsLeft() == 0) {
                x = new Engine();
            }
            CHECK.due("put of " + c, x.put(c % 4, (char) c) ? 1 : 0, c >= 33 && c <= 126 ? 1 : 0);
        }
        for (char c = 33; c <= 126; c++) {
            int error = "kbri".indexOf(c) >= 0 ? RIGHT : STEPS.indexOf(c) >= 0 ? 1 : 0;
            CHECK.error(0, "" + c, error);
        }
        Engine y = new Engine();
        for (int i = 0; i < 40; i++) {
            CHECK.no("put of 32", y.put(1, (char) 32));
            CHECK.no("put of 127", y.put(1, (char) 127));
        }
        CHECK.append(y, 1, "!1".repeat(19));
        CHECK.no("put of 32", y.put(1, (char) 32));
        CHECK.no("put of 127", y.put(1, (char) 127));
        CHECK.append(y, 1, "!1");
        CHECK.no("put as the 41st", y.put(1, '!'));
        CHECK.due("read()", y.read(), 0);
        CHECK.due("send", y.send(1, 1, 1), 1);
        CHECK.due("delivered", y.delivered(1), 20);
    }

    private static void putRoutes() {
        CHECK.says("False, changing nothing, when r is not 0 .. 3, c is not 33 .. 126 or the text has 40.");
        Engine x = new Engine();
        for (int r : new int[] {-1, 4, -4, 5, Integer.MIN_VALUE, Integer.MAX_VALUE, 256, 1 << 30}) {
            CHECK.no("put(" + r + ", x)", x.put(r, 'x'));
        }
        CHECK.due("read()", x.read(), 0);
        for (int r = 3; r >= 0; r--) {
            CHECK.yes("put(" + r + ", x)", x.put(r, 'x'));
            CHECK.due("read()", x.read(), 100 * (r + 1));
        }
    }

    private static void putBeforeRead() {
        CHECK.says("The routes that run do not change before read().");
        Engine x = CHECK.engine("!0", "", "", "k".repeat(39));
        CHECK.append(x, 0, "!1");
        CHECK.append(x, 3, "r");
        CHECK.no("put as the 41st", x.put(3, 'r'));
        CHECK.due("send", x.send(0, 1, 2), 1);
        CHECK.due("send", x.send(3, 1, 2), 1);
        CHECK.due("delivered", x.delivered(1), 0);
        CHECK.due("read()", x.read(), 0);
        CHECK.due("send", x.send(0, 1, 2), 1);
        CHECK.got(x, 1, "1/2");
        CHECK.due("send", x.send(3, 3, 4), 1);
        CHECK.got(x, 1, "1/2 3/3");
    }

    private static void clearRoutes() {
        CHECK.says("Makes the text of route r empty; false when r is not 0 .. 3.");
        Engine x = new Engine();
        CHECK.write(x, "x", "x", "x", "x");
        for (int r : new int[] {-1, 4, -4, 5, Integer.MIN_VALUE, Integer.MAX_VALUE, 256, 1 << 30}) {
            CHECK.no("clear(" + r + ")", x.clear(r));
        }
        for (int r = 0; r <= 3; r++) {
            CHECK.due("read()", x.read(), 100 * (r + 1));
            CHECK.yes("clear(" + r + ")", x.clear(r));
            CHECK.yes("clear(" + r + ") of an empty text", x.clear(r));
        }
        CHECK.due("read()", x.read(), 0);
        CHECK.says("(Likewise.)");
        Engine y = CHECK.engine("!0", "!1", "!2", "!3");
        for (int r = 0; r <= 3; r++) {
            CHECK.yes("clear(" + r + ")", y.clear(r));
            CHECK.due("send through a route that runs as before", y.send(r, 1, 2), 1);
            CHECK.due("delivered", y.delivered(r), 1);
        }
        CHECK.due("read()", y.read(), 0);
        for (int r = 0; r <= 3; r++) {
            CHECK.due("send", y.send(r, 1, 2), 1);
            CHECK.due("delivered", y.delivered(r), 1);
        }
    }

    private static void clearFullText() {
        CHECK.says("Makes the text of route r empty; false when r is not 0 .. 3.");
        for (int r = 0; r <= 3; r++) {
            Engine x = new Engine();
            CHECK.append(x, r, "x".repeat(40));
            CHECK.no("put as the 41st", x.put(r, 'k'));
            CHECK.yes("clear", x.clear(r));
            CHECK.due("read()", x.read(), 0);
            CHECK.append(x, r, "k".repeat(39) + "+");
            CHECK.no("put as the 41st", x.put(r, '1'));
            CHECK.due("read()", x.read(), 100 * (r + 1) + 40);
            CHECK.yes("clear", x.clear(r));
            CHECK.append(x, r, "k");
            CHECK.due("read() of a short text behind a long one", x.read(), 0);
            CHECK.append(x, r, "k".repeat(38) + "x");
            CHECK.due("read()", x.read(), 100 * (r + 1) + 39);
            CHECK.yes("clear", x.clear(r));
            CHECK.append(x, r, "k".repeat(39));
            CHECK.due("read() of 39 characters where 40 were", x.read(), 0);
        }
    }

    private static void readAnswers() {
        CHECK.says("Otherwise answers 100 * (r + 1) + the place of the first error of the text of r");
        for (int r = 0; r <= 3; r++) {
            Engine x = new Engine();
            CHECK.due("read()", x.read(), 0);
            CHECK.yes("put", x.put(r, '+'));
            CHECK.due("read()", x.read(), 100 * (r + 1) + 1);
            CHECK.yes("put", x.put(r, '1'));
            CHECK.due("read()", x.read(), 0);
            CHECK.yes("put", x.put(r, ')'));
            CHECK.due("read()", x.read(), 100 * (r + 1) + 2);
            CHECK.yes("clear", x.clear(r));
            CHECK.due("read()", x.read(), 0);
        }
    }

    private static void readLeastRoute() {
        CHECK.says("the least route whose text has one, and changes nothing.");
        for (int errors = 0; errors < 16; errors++) {
            Engine x = new Engine();
            for (int r = 0; r <= 3; r++) {
                CHECK.append(x, r, "k" + ((errors >> r & 1) == 1 ? ")" : ""));
            }
            int least = Integer.numberOfTrailingZeros(errors);
            CHECK.due("read()", x.read(), errors == 0 ? 0 : 100 * (least + 1) + 1);
        }
    }

    /** Eight in the queue, three groups, three held, four kept: as much as these steps can have. */
    private static Engine fullest() {
        Engine x = CHECK.engine("i&1!0", "a2,9!1", "q4!2");
        for (int key = 1; key <= 8; key++) {
            CHECK.due("send", x.send(0, 10 + key, key), 1);
        }
        for (int key = 1; key <= 3; key++) {
            CHECK.due("send", x.send(1, 20 + key, key), 3);
            CHECK.due("send", x.send(2, 30 + key, key), 3);
        }
        CHECK.counts(x, "14 8 0 6 0 0 0 0 0 8 3 3 0");
        return x;
    }

    private static void readEmptiesTheFullest() {
        CHECK.says("the queue is emptied, and all groups, and what steps hold and keep, are gone (they have no further outcome)");
        Engine x = fullest();
        CHECK.due("pass", x.pass(4), 0);
        CHECK.due("read()", x.read(), 0);
        CHECK.counts(x, "14 8 0 6 0 0 0 0 4 0 0 0 0");
        CHECK.due("work", x.work(), -1);
        CHECK.due("pass", x.pass(5), 0);
        CHECK.due("group", x.group(0, 0), 0);
        for (int key = 5; key <= 8; key++) {
            CHECK.due("send of a key that was kept", x.send(0, 40 + key, key), 1);
        }
        for (int key = 1; key <= 4; key++) {
            CHECK.due("send", x.send(0, 40 + key, key), 1);
        }
        CHECK.due("copies in the queue", x.count(9), 8);
        for (int key = 4; key <= 6; key++) {
            CHECK.due("send that opens a group", x.send(1, 50 + key, key), 3);
            CHECK.due("send that is held", x.send(2, 60 + key, key), 3);
        }
        CHECK.groups(x, "4/54/1/18 5/55/1/18 6/56/1/18");
        CHECK.counts(x, "28 16 0 12 0 0 0 0 9 8 3 3 0");
        CHECK.due("send as the fourth that is held", x.send(2, 67, 7), 3);
        CHECK.got(x, 2, "64/4 65/5 66/6 67/7");
        CHECK.due("work", x.work(), 3);
        CHECK.groups(x, "4/54/1/18 6/56/1/18");
        CHECK.got(x, 1, "100/5");
    }

    private static void readKeepsTheRest() {
        CHECK.says("answers 0, and from now on these routes run");
        Engine x = CHECK.engine("!0", "!1");
        for (int i = 0; i < 4; i++) {
            CHECK.yes("clause", x.clause(1, 1, 7, true, false));
        }
        CHECK.due("send", x.send(0, 5, 6), 1);
        for (int d = 0; d <= 3; d++) {
            CHECK.yes("fail", x.fail(d, 9, 3));
        }
        CHECK.write(x, "!1", "!0", "!3", "!2");
        CHECK.due("read()", x.read(), 0);
        CHECK.got(x, 0, "5/6");
        CHECK.no("clause as the fifth", x.clause(1, 0, 0, true, false));
        for (int r = 0; r <= 3; r++) {
            for (int failures = 9; failures >= 2; failures -= 2) {
                CHECK.due("send with failures left", x.send(r, r, 6), 5);
            }
            CHECK.due("send whose redelivery arrives", x.send(r, r, 6), 1);
        }
        CHECK.counts(x, "21 5 0 0 0 16 0 0 140 0 0 0 20");
        CHECK.got(x, 0, "5/6 1/6");
        CHECK.got(x, 1, "0/6");
        CHECK.got(x, 2, "3/6");
        CHECK.got(x, 3, "2/6");
    }

    private static void readOfErrorChangesNothing() {
        CHECK.says("the least route whose text has one, and changes nothing.");
        Engine x = fullest();
        CHECK.write(x, "!3", "!3", "!3", "(");
        CHECK.due("read()", x.read(), 400);
        CHECK.counts(x, "14 8 0 6 0 0 0 0 0 8 3 3 0");
        CHECK.groups(x, "1/21/1/9 2/22/1/9 3/23/1/9");
        for (int key = 5; key <= 8; key++) {
            CHECK.due("send of a kept key", x.send(0, 0, key), 4);
        }
        CHECK.due("send with a full queue", x.send(0, 0, 4), 6);
        CHECK.due("work", x.work(), 3);
        CHECK.got(x, 1, "32/1");
        CHECK.due("send as the fourth that is held", x.send(2, 34, 4), 3);
        CHECK.got(x, 2, "31/1 32/2 33/3 34/4");
        CHECK.due("delivered", x.delivered(3), 0);
    }
}
