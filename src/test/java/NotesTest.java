/** Promises 29 to 36: notes and rules that they allow, draws, counts, images. */
public final class NotesTest {
    private static final Checks CHECKS = new Checks();

    public static void main(String[] args) {
        note();
        ruled();
        behindTheDay();
        look();
        seed();
        camps();
        drawsAreDrawn();
        count();
        images();
        imageWithoutCamp();
        CHECKS.close();
    }

    private static void due(String call, long got, long want) {
        CHECKS.due(call, got, want);
    }

    private static void note() {
        FailBadge b = Checks.company(ActsTest.TWO);
        due("n 61", b.note(61, 0, 0, 0), -2);
        due("n -2", b.note(-2, 0, 0, 0), -2);
        due("scout 2", b.note(0, 2, 0, 0), -2);
        due("scout -1", b.note(0, -1, 0, 0), -2);
        due("kind 3", b.note(0, 0, 3, 0), -2);
        due("kind -1", b.note(0, 0, -1, 0), -2);
        due("has 2", b.note(0, 0, 0, 2), -2);
        due("has -1", b.note(0, 0, 0, -1), -2);
        due("none yet", b.count(11), 0);
        for (int i = 1; i <= 10; i++) {
            due("note", b.note(6 * i, 1, 2, 0), i);
        }
        due("an eleventh", b.note(0, 0, 0, 0), -2);
        due("notes", b.count(11), 10);
        due("none", b.note(-1, 77, 77, 77), 0);
        due("notes", b.count(11), 0);
        due("note", b.note(0, 0, 0, 0), 1);
        due("is no act", b.count(12), 0);
    }

    /** By none both try kind 1 on day 0; by the rules kinds 0, 2 and 1. */
    private static FailBadge four() {
        FailBadge b = Checks.company("camp 1 0;kind 10;kind 20;kind 10;scout;scout;can 1 2 10");
        Checks.rule(b, "try 1 if kind = 0");
        Checks.rule(b, "try 1 if kind = 2");
        Checks.rule(b, "try 1 if kind = 1 or scout = 1");
        return b;
    }

    private static void ruled() {
        FailBadge b = four();
        due("all", b.ruled(0), 4);
        due("none first", b.ruled(1), -1);
        due("what 2", b.ruled(2), -3);
        due("what -1", b.ruled(-1), -3);
        b.note(0, 0, 1, 1);
        due("none and the last", b.ruled(0), 2);
        due("none", b.ruled(1), -1);
        b.note(0, 1, 0, 1);
        due("the last", b.ruled(0), 1);
        due("the last", b.ruled(1), 2);
        b.note(0, 0, 0, 1);
        due("nor is that one so", b.ruled(0), 0);
        due("nor is that one so", b.ruled(1), -2);
        // From the begin on, as the text told it, whatever has been done since.
        FailBadge c = four();
        c.force(1);
        c.day();
        c.attempt(0, 0);
        c.teach(1, 0, 2);
        c.note(0, 0, 0, 1);
        due("rule 0", c.ruled(0), 1);
        due("rule 0", c.ruled(1), 0);
        FailBadge d = four();
        d.note(60, 0, 2, 1);
        d.note(0, 0, 2, 0);
        due("behind day 60: none, too, but not rule 1, whose scout learns it", d.ruled(0), 1);
        due("behind day 60", d.ruled(1), -1);
    }

    /** The n-th DAY is the one whose number is n, and behind it is when it has gone. */
    private static void behindTheDay() {
        FailBadge b = four();
        // By rule 1 scout 0 fails kind 2 on days 0 to 9, and it comes off on day 10.
        b.note(9, 0, 2, 1);
        b.note(10, 0, 2, 0);
        due("lost on day 10", b.ruled(0), 1);
        due("lost on day 10", b.ruled(1), 1);
        FailBadge first = Checks.company("camp 1 0;kind 5;scout");
        first.note(0, 0, 0, 0);
        due("has it behind day 0", first.ruled(0), 0);
        due("has it behind day 0", first.ruled(1), -2);
        first.note(-1, 0, 0, 0);
        first.note(0, 0, 0, 1);
        due("has it behind day 0", first.ruled(0), 1);
        Checks.rule(first, "try 0");
        due("rule 0 never tries", first.ruled(0), 1);
        first.note(-1, 0, 0, 0);
        due("these part by day 0", first.look(0, 1), 1);
        FailBadge last = Checks.company("camp 1 0;kind 5;scout");
        Checks.rule(last, "try 0");
        Checks.rule(last, "try 1 if day = 60");
        Checks.rule(last, "try 1 if day = 61");
        last.note(59, 0, 0, 0);
        due("not yet behind day 59", last.ruled(0), 3);
        due("alike behind day 59", last.look(59, 1), 3);
        due("one is unlike behind day 60", last.look(60, 1), 2);
        last.note(60, 0, 0, 1);
        due("tried on day 60", last.ruled(0), 1);
        due("tried on day 60", last.ruled(1), 1);
    }

    private static void look() {
        FailBadge b = four();
        // Behind day 0 scout 0 has {1}, {0}, {2}, {1}: two alike; scout 1 has {1}, {0}, {}, {0}:
        // two alike, too.
        due("look", b.look(0, 0), 0);
        due("look", b.look(0, 1), 2);
        b.note(0, 0, 1, 1);
        due("these two part by scout 1", b.look(0, 0), 1);
        due("look", b.look(0, 1), 1);
        b.note(0, 0, 1, 0);
        due("no rule is so", b.look(0, 0), -2);
        due("no rule is so", b.look(0, 1), -2);
        due("n 61", b.look(61, 0), -1);
        due("n -1", b.look(-1, 0), -1);
        due("what 2", b.look(0, 2), -1);
        due("what -1", b.look(0, -1), -1);
    }

    private static void seed() {
        FailBadge b = new FailBadge();
        due("seed", b.seed(7), 0);
        due("seed", b.seed(2147483647), 7);
        due("below 0", b.seed(-1), -1);
        due("x", b.count(13), 2147483647);
        due("seed", b.seed(0), 2147483647);
    }

    private static void camps() {
        // One always tries kind 0: with calm 9 alone it comes off.
        FailBadge b = Checks.company("camp 0 9;kind 9;scout");
        Checks.rule(b, "try 1");
        b.force(0);
        due("no draws", b.camps(10, 60, 0, 0), 600);
        due("no draws", b.camps(10, 60, 0, 1), 0);
        due("one day", b.camps(1, 1, 0, 0), 1);
        due("m 0", b.camps(0, 1, 0, 0), -1);
        due("m 11", b.camps(11, 1, 0, 0), -1);
        due("n 0", b.camps(1, 0, 0, 0), -1);
        due("n 61", b.camps(1, 61, 0, 0), -1);
        due("p -1", b.camps(1, 1, -1, 0), -1);
        due("p 101", b.camps(1, 1, 101, 0), -1);
        due("what 2", b.camps(1, 1, 0, 2), -1);
        due("what -1", b.camps(1, 1, 0, -1), -1);
        due("x stays", b.count(13), 0);
        due("day stays", b.count(7), 0);
    }

    /** The draws told again here, for one scout whose calm is as told or drawn. */
    private static void drawsAreDrawn() {
        int[] calms = {9, 2};
        for (int seed : new int[] {0, 1, 12345, 2147483647}) {
            for (int p : new int[] {1, 30, 50, 99, 100}) {
                long x = seed;
                int off = 0;
                int badges = 0;
                for (int camp = 0; camp < 7; camp++) {
                    boolean has = false;
                    for (int day = 0; day < 13; day++) {
                        x = (x * 1103515245L + 12345L) & 2147483647L;
                        int calm = calms[day % 2];
                        if (x / 65536 % 100 < p) {
                            x = (x * 1103515245L + 12345L) & 2147483647L;
                            calm = (int) (x / 65536 % 10);
                        }
                        has = calm < 5;
                        off += has ? 0 : 1;
                    }
                    badges += has ? 1 : 0;
                }
                FailBadge b = Checks.company("camp 0 0;calm 9;calm 2;kind 5;scout");
                Checks.rule(b, "try 1 + calm + next");
                b.force(0);
                b.seed(seed);
                due("off of " + seed + " " + p, b.camps(7, 13, p, 0), off);
                due("badges of " + seed + " " + p, b.camps(7, 13, p, 1), badges);
                due("x stays", b.count(13), seed);
            }
        }
        // The word calm is what was drawn, next is as told.
        FailBadge c = Checks.company("camp 0 0;kind 5;scout");
        Checks.rule(c, "try 1 if calm >= 5");
        Checks.rule(c, "try 1 if next > 0");
        c.force(0);
        due("tried when it comes off", c.camps(10, 60, 100, 1), 0);
        due("it did", c.camps(10, 60, 100, 0) > 100 ? 1 : 0, 1);
        c.force(1);
        due("never tried", c.camps(10, 60, 100, 0), 0);
    }

    private static void count() {
        FailBadge b = Checks.company(ActsTest.TWO);
        Checks.rule(b, "try 1 if 1 = 2");
        Checks.rule(b, "try 1");
        b.day();
        b.force(1);
        b.attempt(1, 2);
        b.note(3, 0, 0, 1);
        b.seed(99);
        b.feed(1, 2, 3, 4, 5);
        int[] want = {2, 1, 2, 3, 2, 2, 1, 1, 0, 1, 2, 1, 2, 99, 20};
        for (int what = 0; what < want.length; what++) {
            due("count " + what, b.count(what), want[what]);
        }
        due("count -1", b.count(-1), -1);
        due("count 15", b.count(15), -1);
    }

    private static void images() {
        FailBadge b = Checks.company(ActsTest.TWO);
        Checks.rule(b, "try 1 if 1 = 2");
        b.force(0);
        b.day();
        b.attempt(0, 1);
        b.note(3, 0, 0, 1);
        b.seed(99);
        due("image 4", b.image(4), -1);
        due("image -1", b.image(-1), -1);
        due("never made", b.back(3), -1);
        due("image", b.image(3), 1);
        due("acts stay", b.count(12), 2);
        b.day();
        b.sham(1, 2);
        b.force(-1);
        b.note(4, 1, 1, 1);
        b.seed(3);
        Checks.camp(b, "camp 0 5;kind 7;kind 8;kind 9;kind 9;scout");
        Checks.rule(b, "try 2");
        b.feed(0, 0, 0, 0, 0);
        b.attempt(0, 0);
        due("another one", b.image(0), 0);
        due("back 4", b.back(4), -1);
        due("back -1", b.back(-1), -1);
        due("back 1", b.back(1), -1);
        due("nothing happens", b.count(12), 1);
        due("back", b.back(3), 1);
        int[] want = {2, 1, 2, 3, 2, 2, 0, 1, 0, 1, 0, 1, 0, 99, 20};
        for (int what = 0; what < want.length; what++) {
            due("count " + what, b.count(what), want[what]);
        }
        due("undo", b.undo(), -1);
        due("badges", b.scout(0, 0), 0b010);
        due("skill", b.skill(0, 1), 2);
        due("tried", b.scout(0, 2), 1);
        b.note(-1, 0, 0, 0);
        b.attempt(0, 0);
        due("the image stays", b.back(3), 1);
        due("notes", b.count(11), 1);
        due("badges", b.scout(0, 0), 0b010);
        due("the other", b.back(0), 0);
        due("least", b.count(1), 5);
        due("badges", b.scout(0, 0), 0b001);
        due("x", b.count(13), 3);
        due("in force", b.count(6), -1);
    }

    private static void imageWithoutCamp() {
        FailBadge b = new FailBadge();
        due("image", b.image(2), 0);
        Checks.camp(b, "camp 1 1;scout");
        b.day();
        due("back", b.back(2), 0);
        due("no camp", b.trust(), -1);
        due("no camp", b.day(), -1);
    }
}
