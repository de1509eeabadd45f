/** Compares answers with those that are due, and makes engines whose routes are read. */
final class Check {
    private int wrong;
    private int made;

    void due(String call, long got, long want) {
        made++;
        if (got != want) {
            wrong++;
            System.out.println(call + " answered " + got + ", due is " + want);
        }
    }

    void yes(String call, boolean got) {
        due(call, got ? 1 : 0, 1);
    }

    void no(String call, boolean got) {
        due(call, got ? 1 : 0, 0);
    }

    /** An engine with these texts for the routes 0, 1, .., which must have no error. */
    RouteEngine engine(String... texts) {
        RouteEngine x = new RouteEngine();
        write(x, texts);
        due("read() of " + String.join(" ", texts), x.read(), 0);
        return x;
    }

    void write(RouteEngine x, String... texts) {
        for (int r = 0; r < texts.length; r++) {
            yes("clear(" + r + ")", x.clear(r));
            for (char c : texts[r].toCharArray()) {
                yes("put(" + r + ", " + c + ")", x.put(r, c));
            }
        }
    }

    /** The deliveries that an endpoint got, the latest last, each as body/key. */
    static String got(RouteEngine x, int d) {
        StringBuilder all = new StringBuilder();
        for (int k = Math.min(x.delivered(d), 8) - 1; k >= 0; k--) {
            all.append(all.length() == 0 ? "" : " ").append(x.body(d, k)).append('/').append(x.key(d, k));
        }
        return all.toString();
    }

    void got(RouteEngine x, int d, String want) {
        same("deliveries to " + d, got(x, d), want);
    }

    /** The counts 0 .. 12, with a blank between them. */
    void counts(RouteEngine x, String want) {
        StringBuilder all = new StringBuilder();
        for (int what = 0; what <= 12; what++) {
            all.append(what == 0 ? "" : " ").append(x.count(what));
        }
        same("counts", all.toString(), want);
    }

    /** The open groups, each as key/sum/members/due. */
    void groups(RouteEngine x, String want) {
        StringBuilder all = new StringBuilder();
        for (int i = 0; i < x.count(10); i++) {
            all.append(i == 0 ? "" : " ").append(x.group(i, 0)).append('/').append(x.group(i, 1));
            all.append('/').append(x.group(i, 2)).append('/').append(x.group(i, 3));
        }
        same("groups", all.toString(), want);
    }

    void same(String what, String got, String want) {
        made++;
        if (!got.equals(want)) {
            wrong++;
            StackTraceElement[] calls = new Throwable().getStackTrace();
            System.out.println(what + ": [" + got + "], due is [" + want + "], at " + calls[calls.length - 2]);
        }
    }

    void end() {
        System.out.println(wrong == 0 ? made + " answers are as due" : wrong + " of " + made + " answers are not as due");
        if (wrong != 0) {
            System.exit(1);
        }
    }
}
