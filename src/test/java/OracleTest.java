import java.util.Random;

/** Random runs of calls on FailBadge and on the Oracle: each answer must be the same. */
public final class OracleTest {
    private static final int CALLS = 512;
    private static final String[] WORDS = {"scout", "kind", "hard", "skill", "badge", "badges",
        "others", "calm", "next", "passed", "tried", "day"};
    private static final String[] SIGNS = {"<", "<=", "=", ">=", ">"};

    private final Random random;
    private final Checks checks;
    private final String name;
    private final FailBadge badge = new FailBadge();
    private final Oracle oracle = new Oracle();
    private int calls = 0;

    private OracleTest(long seed, Checks checks) {
        this.random = new Random(seed);
        this.checks = checks;
        this.name = "run " + seed + " ";
    }

    public static void main(String[] args) {
        Checks checks = new Checks();
        int runs = args.length > 0 ? Integer.parseInt(args[0]) : 250;
        int first = args.length > 1 ? Integer.parseInt(args[1]) : 1;
        for (int i = 0; i < runs; i++) {
            new OracleTest(first + i, checks).run();
        }
        checks.close();
    }

    private void run() {
        if (random.nextInt(10) > 0) {
            tellCamp(campText());
        }
        int rules = random.nextInt(5);
        for (int i = 0; i < rules; i++) {
            tellRule(ruleText());
        }
        while (calls < CALLS) {
            step();
        }
    }

    private int below(int n) {
        return random.nextInt(n);
    }

    /** Mostly from least to most, now and then just outside or far off. */
    private int near(int least, int most) {
        int how = below(30);
        if (how == 0) {
            return least - 1;
        }
        if (how == 1) {
            return most + 1;
        }
        if (how == 2) {
            return new int[] {Integer.MIN_VALUE, Integer.MAX_VALUE, least, most, -2, -1}[below(6)];
        }
        return least + below(most - least + 1);
    }

    private int someScout() {
        return near(0, Math.max(0, oracle.count(4) - 1));
    }

    private int someKind() {
        return near(0, Math.max(0, oracle.count(3) - 1));
    }

    private void due(String call, int got, int want) {
        calls++;
        checks.due(name + "call " + calls + ": " + call, got, want);
    }

    private void tell(String text) {
        due("end", badge.end(0), oracle.end(0));
        for (int at = 0; at < text.length(); at += 20) {
            int[] n = new int[5];
            for (int i = 0; i < 5; i++) {
                n[i] = Checks.four(text, at + 4 * i);
            }
            due("feed", badge.feed(n[0], n[1], n[2], n[3], n[4]),
                    oracle.feed(n[0], n[1], n[2], n[3], n[4]));
        }
        due("end", badge.end(text.length()), oracle.end(text.length()));
    }

    private void tellCamp(String text) {
        tell(text);
        due("camp of " + text, badge.camp(), oracle.camp());
    }

    private void tellRule(String text) {
        tell(text);
        due("rule of " + text, badge.rule(), oracle.rule());
    }

    private String blank() {
        return below(12) == 0 ? " ".repeat(below(3)) : "";
    }

    private String campText() {
        StringBuilder s = new StringBuilder();
        s.append(blank()).append("camp ").append(below(6)).append(' ').append(below(10));
        int calms = below(3) == 0 ? 0 : below(13);
        int kinds = below(8) == 0 ? below(7) : 1 + below(6);
        int scouts = below(8) == 0 ? below(7) : 1 + below(6);
        for (int i = 0; i < calms; i++) {
            s.append(blank()).append(";calm").append(blank()).append(below(10));
        }
        int hardest = below(2) == 0 ? 12 : 31;
        for (int i = 0; i < kinds; i++) {
            s.append(";").append(blank()).append("kind ").append(below(hardest));
        }
        for (int i = 0; i < scouts; i++) {
            s.append(blank()).append(";scout");
        }
        int cans = scouts == 0 || kinds == 0 ? 0 : below(10);
        for (int i = 0; i < cans; i++) {
            s.append(";can ").append(below(scouts)).append(' ').append(below(kinds)).append(' ')
                    .append(below(21));
        }
        return spoilt(s.toString());
    }

    private String sum(int size) {
        StringBuilder s = new StringBuilder();
        for (int i = 0; i <= size; i++) {
            if (i > 0) {
                s.append(blank()).append("+-*/%+-".charAt(below(7))).append(blank());
            }
            int big = below(20) == 0 ? 100000 : 20;
            s.append(below(3) == 0 ? "" + below(big) : WORDS[below(WORDS.length)]);
        }
        return s.toString();
    }

    private String test(int deep) {
        StringBuilder s = new StringBuilder();
        int facts = 1 + below(3);
        for (int i = 0; i < facts; i++) {
            if (i > 0) {
                s.append(below(2) == 0 ? " and " : " or ");
            }
            int how = below(8);
            if (how == 0 && deep < 3) {
                s.append("[").append(test(deep + 1)).append("]");
            } else {
                s.append(how == 1 ? "not " : how == 2 ? "not not " : "").append(sum(below(3)))
                        .append(blank()).append(SIGNS[below(5)]).append(sum(below(2)));
            }
        }
        return s.toString();
    }

    private String ruleText() {
        StringBuilder s = new StringBuilder();
        int clauses = 1 + below(3);
        for (int i = 0; i < clauses; i++) {
            s.append(i == 0 ? "" : ";").append(blank()).append("try ").append(sum(below(5)));
            if (below(2) == 0 || i < clauses - 1) {
                s.append(" if ").append(test(0));
            }
        }
        return spoilt(s.toString());
    }

    private String spoilt(String text) {
        String s = text.length() > 400 ? text.substring(0, 400) : text;
        while (below(8) == 0 && !s.isEmpty()) {
            int at = below(s.length());
            String signs = " ;[]<>=+-*/%0123456789notandorifcalmkiscutbdg\u0000\u00ff{A";
            String put = below(3) == 0 ? s.substring(at, Math.min(s.length(), at + 6))
                    : "" + signs.charAt(below(signs.length()));
            s = s.substring(0, at) + put + s.substring(at + below(2));
        }
        return s.length() > 400 ? s.substring(0, 400) : s;
    }

    private void step() {
        switch (below(14)) {
            case 0:
                textStep();
                break;
            case 1:
            case 2:
                due("day", badge.day(), oracle.day());
                break;
            case 3:
            case 4:
                actStep();
                break;
            case 5:
            case 6:
            case 7:
                dayStep();
                break;
            case 8:
            case 9:
            case 10:
                nowStep();
                break;
            case 11:
                noteStep();
                break;
            case 12:
                imageStep();
                break;
            default:
                int what = near(0, 14);
                due("count " + what, badge.count(what), oracle.count(what));
        }
    }

    private void textStep() {
        int how = below(40);
        if (how < 3) {
            tellCamp(campText());
        } else if (how < 6) {
            tellRule(ruleText());
        } else if (how < 8) {
            due("camp", badge.camp(), oracle.camp());
        } else if (how < 10) {
            due("rule", badge.rule(), oracle.rule());
        } else if (how < 14) {
            int n = near(0, 40);
            due("end " + n, badge.end(n), oracle.end(n));
        } else if (how < 18) {
            int n = random.nextInt();
            due("feed", badge.feed(n, n + 1, n * 3, ~n, n / 7), oracle.feed(n, n + 1, n * 3, ~n, n / 7));
        } else {
            int rule = near(-1, Math.max(0, oracle.count(5) - 1));
            due("force " + rule, badge.force(rule), oracle.force(rule));
        }
    }

    private void actStep() {
        int s = someScout();
        int k = someKind();
        int o = someScout();
        String args = s + " " + k + " " + o;
        switch (below(6)) {
            case 0:
                due("sham " + args, badge.sham(s, k), oracle.sham(s, k));
                break;
            case 1:
                due("teach " + args, badge.teach(s, o, k), oracle.teach(s, o, k));
                break;
            case 2:
                due("cut " + args, badge.cut(s, k), oracle.cut(s, k));
                break;
            case 3:
                due("undo", badge.undo(), oracle.undo());
                break;
            default:
                due("attempt " + args, badge.attempt(s, k), oracle.attempt(s, k));
        }
    }

    private void dayStep() {
        int s = someScout();
        int w = near(0, 1);
        switch (below(7)) {
            case 0:
                int n = near(0, 100);
                int a = near(0, 2);
                due("ahead " + s + " " + n + " " + a, badge.ahead(s, n, a), oracle.ahead(s, n, a));
                break;
            case 1:
                due("arm " + s, badge.arm(s), oracle.arm(s));
                break;
            case 2:
                due("off " + w, badge.off(w), oracle.off(w));
                break;
            case 3:
                int l = near(1, 60);
                due("leastLearn " + l, badge.leastLearn(l), oracle.leastLearn(l));
                break;
            case 4:
                int o = near(1, 30);
                due("leftOut " + o + " " + w, badge.leftOut(o, w), oracle.leftOut(o, w));
                break;
            case 5:
                due("ring " + w, badge.ring(w), oracle.ring(w));
                break;
            default:
                int m = near(1, 10);
                int d = near(1, 60);
                int p = near(0, 100);
                due("camps " + m + " " + d + " " + p + " " + w, badge.camps(m, d, p, w),
                        oracle.camps(m, d, p, w));
        }
    }

    private void nowStep() {
        int s = someScout();
        int k = someKind();
        int w = near(0, 4);
        String args = s + " " + k + " " + w;
        switch (below(12)) {
            case 0:
            case 1:
                due("scout " + args, badge.scout(s, w), oracle.scout(s, w));
                break;
            case 2:
                due("skill " + args, badge.skill(s, k), oracle.skill(s, k));
                break;
            case 3:
                due("hard " + args, badge.hard(k), oracle.hard(k));
                break;
            case 4:
                int c = near(0, 1);
                due("cover " + c, badge.cover(c), oracle.cover(c));
                break;
            case 5:
            case 6:
                int m = near(-1, 5);
                due("match " + m, badge.match(m), oracle.match(m));
                break;
            case 7:
                due("trust", badge.trust(), oracle.trust());
                break;
            case 8:
                int n = below(12) == 0 ? near(1, 4) : near(1, 2);
                due("row " + args + " " + n, badge.row(s, n, w), oracle.row(s, n, w));
                break;
            case 9:
                due("calmest " + args, badge.calmest(s, k), oracle.calmest(s, k));
                break;
            case 10:
                int o = someScout();
                int d = near(1, 20);
                int t = near(0, 2);
                due("rests " + args + " " + o + " " + d + " " + t, badge.rests(s, o, d, t),
                        oracle.rests(s, o, d, t));
                break;
            default:
                int much = near(0, 9999);
                due("pence " + much + " " + s, badge.pence(much, s), oracle.pence(much, s));
        }
    }

    private void noteStep() {
        int n = below(4) == 0 ? near(0, 60) : near(0, 9);
        int w = near(0, 1);
        switch (below(6)) {
            case 0:
                n = below(3) == 0 ? -1 : n;
                int s = someScout();
                int k = someKind();
                due("note " + n + " " + s + " " + k + " " + w, badge.note(n, s, k, w),
                        oracle.note(n, s, k, w));
                break;
            case 1:
                // What is told is so by one of the rules, that not all drop out at once.
                if (oracle.told != null && oracle.told.scouts > 0 && oracle.told.hards.size() > 0) {
                    trueNote();
                }
                break;
            case 2:
            case 3:
                due("ruled " + w, badge.ruled(w), oracle.ruled(w));
                break;
            default:
                due("look " + n + " " + w, badge.look(n, w), oracle.look(n, w));
        }
    }

    private void trueNote() {
        int n = below(10);
        int s = below(oracle.told.scouts);
        int k = below(oracle.told.hards.size());
        due("note", badge.note(n, s, k, 1), oracle.note(n, s, k, 1));
        if (oracle.ruled(0) == 0) {
            due("note none", badge.note(-1, 0, 0, 0), oracle.note(-1, 0, 0, 0));
            due("note", badge.note(n, s, k, 0), oracle.note(n, s, k, 0));
        }
    }

    private void imageStep() {
        int k = near(0, 3);
        switch (below(8)) {
            case 0:
            case 1:
            case 2:
                due("image " + k, badge.image(k), oracle.image(k));
                break;
            case 3:
                due("back " + k, badge.back(k), oracle.back(k));
                break;
            default:
                int x = below(5) == 0 ? -1 - below(9) : random.nextInt() & Integer.MAX_VALUE;
                due("seed " + x, badge.seed(x), oracle.seed(x));
        }
    }
}
