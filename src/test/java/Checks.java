/** What the tests share: counting answers that are not as due, and telling texts. */
final class Checks {
    private int asked = 0;
    private int wrong = 0;

    void due(String call, long got, long want) {
        asked++;
        if (got != want) {
            wrong++;
            System.out.println(call + " answered " + got + ", due is " + want);
        }
    }

    /** Puts a text on the tape in place of what is on it. */
    static void tell(FailBadge badge, String text) {
        badge.end(0);
        for (int at = 0; at < text.length(); at += 20) {
            badge.feed(four(text, at), four(text, at + 4), four(text, at + 8), four(text, at + 12),
                    four(text, at + 16));
        }
        badge.end(text.length());
    }

    static int camp(FailBadge badge, String text) {
        tell(badge, text);
        return badge.camp();
    }

    static int rule(FailBadge badge, String text) {
        tell(badge, text);
        return badge.rule();
    }

    /** A new object whose CAMP is told. */
    static FailBadge company(String camp) {
        FailBadge badge = new FailBadge();
        if (camp(badge, camp) < 0) {
            throw new IllegalStateException("a test's camp has a fault: " + camp);
        }
        return badge;
    }

    /** A new object whose CAMP is told, and a RULE that is IN FORCE. */
    static FailBadge company(String camp, String rule) {
        FailBadge badge = company(camp);
        if (rule(badge, rule) != 0) {
            throw new IllegalStateException("a test's rule has a fault: " + rule);
        }
        badge.force(0);
        return badge;
    }

    /** All that can be seen of an object without asking for what is to come. */
    static String everything(FailBadge badge) {
        StringBuilder all = new StringBuilder();
        for (int what = 0; what < 15; what++) {
            all.append(badge.count(what)).append(' ');
        }
        for (int scout = 0; scout < badge.count(4); scout++) {
            for (int what = 0; what < 5; what++) {
                all.append(badge.scout(scout, what)).append(' ');
            }
            for (int kind = 0; kind < badge.count(3); kind++) {
                all.append(badge.skill(scout, kind)).append(' ');
            }
        }
        for (int kind = 0; kind < badge.count(3); kind++) {
            all.append(badge.hard(kind)).append(' ');
        }
        return all.append(badge.ruled(0)).append(' ').append(badge.ruled(1)).toString();
    }

    static int four(String text, int at) {
        int all = 0;
        for (int i = at; i < at + 4; i++) {
            all = all << 8 | (i < text.length() ? text.charAt(i) & 255 : 0);
        }
        return all;
    }

    /** The answer to a text with a fault at a place. */
    static int fault(int place, int code) {
        return -2 - (1 + 8 * place + code);
    }

    void close() {
        System.out.println(asked + " asked, " + wrong + " not as due");
        if (wrong != 0 || asked == 0) {
            System.exit(1);
        }
    }
}
