import java.math.BigInteger;

/** Promises 7 to 15: how scouts stand, days by rules, acts by hand, and acts undone. */
public final class ActsTest {
    private static final Checks CHECKS = new Checks();
    static final String TWO = "camp 2 1;calm 3;calm 0;kind 6;kind 10;kind 2;scout;scout;"
            + "can 0 0 4;can 1 1 8;can 1 2 5";

    public static void main(String[] args) {
        scoutSkillHard();
        daysWithoutRule();
        daysByRule();
        words();
        sums();
        tests();
        eachByHowAllIsThen();
        attempt();
        sham();
        teach();
        cut();
        undo();
        lastDay();
        CHECKS.close();
    }

    private static void due(String call, long got, long want) {
        CHECKS.due(call, got, want);
    }

    private static FailBadge two() {
        FailBadge b = new FailBadge();
        due("camp", Checks.camp(b, TWO), 2);
        return b;
    }

    private static void scoutSkillHard() {
        FailBadge b = two();
        due("can", b.scout(0, 3), 0b101);
        due("can", b.scout(1, 3), 0b110);
        due("badges", b.scout(0, 0), 0);
        due("passed", b.scout(0, 1), 0);
        due("tried", b.scout(0, 2), 0);
        due("shammed", b.scout(0, 4), 0);
        due("what 5", b.scout(0, 5), -1);
        due("what -1", b.scout(0, -1), -1);
        due("scout 2", b.scout(2, 0), -1);
        due("scout -1", b.scout(-1, 0), -1);
        due("skill", b.skill(0, 0), 4);
        due("skill", b.skill(1, 0), 0);
        due("skill", b.skill(1, 2), 5);
        due("skill of kind 3", b.skill(0, 3), -1);
        due("skill of kind -1", b.skill(0, -1), -1);
        due("skill of scout 2", b.skill(2, 0), -1);
        due("hard", b.hard(1), 10);
        due("hard", b.hard(3), -1);
        due("hard", b.hard(-1), -1);
    }

    private static void daysWithoutRule() {
        FailBadge b = two();
        due("day 0", b.day(), 2);
        due("badges", b.scout(0, 0), 0b010);
        due("learnt", b.skill(0, 1), 2);
        due("passed", b.scout(1, 1), 1);
        due("tried", b.scout(1, 2), 1);
        due("calm", b.count(8), 0);
        due("day 1", b.day(), 0);
        due("badges", b.scout(0, 0), 0b011);
        due("badges", b.scout(1, 0), 0b010);
        due("learnt", b.skill(1, 1), 10);
        due("shammed", b.scout(1, 4), 0b010);
        due("day 2", b.day(), 1);
        due("day 3", b.day(), 2);
        due("whole arm", b.scout(0, 0), 0b111);
        due("tried", b.scout(0, 2), 4);
        due("day 4", b.day(), 2);
        due("tried nothing", b.scout(0, 2), 4);
        due("came off", b.count(10), 4);
        due("badges of all", b.count(9), 5);
        due("day", b.count(7), 5);
        // Of two that are as hard, the least; one of HARD 0 is tried, too.
        FailBadge c = new FailBadge();
        Checks.camp(c, "camp 0 0;kind 0;kind 9;kind 9;scout");
        due("day", c.day(), 0);
        due("the least", c.scout(0, 0), 0b010);
        due("day", c.day(), 0);
        due("the next", c.scout(0, 0), 0b110);
        due("day", c.day(), 1);
        due("passed", c.scout(0, 1), 1);
        // LEAST is CALM where none was told; SKILL ends at 50.
        FailBadge d = new FailBadge();
        Checks.camp(d, "camp 5 7;kind 30;scout;can 0 0 20;scout;can 1 0 0");
        due("calm", d.count(8), 7);
        due("day", d.day(), 0);
        due("skill", d.skill(0, 0), 25);
        due("attempt", d.attempt(0, 0), 1);
        due("badge is lost", d.scout(0, 0), 0);
        due("no learning by what comes off", d.skill(0, 0), 25);
    }

    private static void daysByRule() {
        FailBadge b = two();
        Checks.rule(b, "try hard - skill");
        b.force(0);
        due("day", b.day(), 0);
        due("badges", b.scout(0, 0), 0b010);
        due("badges", b.scout(1, 0), 0b001);
        // Nothing is above 0: nobody tries.
        FailBadge c = two();
        Checks.rule(c, "try 0 - hard");
        Checks.rule(c, "try 0");
        Checks.rule(c, "try 5 if 1 = 2");
        for (int rule = 0; rule < 3; rule++) {
            c.force(rule);
            due("day", c.day(), 0);
            due("tried", c.scout(0, 2) + c.scout(1, 2), 0);
        }
        due("day", c.count(7), 3);
        // The first clause that holds counts, even if a later one would be worth more.
        FailBadge d = two();
        Checks.rule(d, "try 1 if kind = 1;try 0 if kind = 2;try 9 if kind = 2");
        d.force(0);
        d.day();
        due("tries kind 1", d.scout(0, 0), 0b010);
        // Of several the least.
        FailBadge e = two();
        Checks.rule(e, "try 3");
        e.force(0);
        due("both try kind 0", e.day(), 1);
        due("tried", e.scout(0, 1), 1);
        due("badge", e.scout(1, 0), 0b001);
    }

    /** On a day whose test names it, the kind that is tried tells what a word is. */
    private static int told(FailBadge b, String sum) {
        int rule = Checks.rule(b, "try 1 if kind = " + sum);
        b.force(rule);
        int before = b.scout(1, 0);
        b.day();
        return Integer.numberOfTrailingZeros(b.scout(1, 0) & ~before);
    }

    private static FailBadge six() {
        FailBadge b = new FailBadge();
        Checks.camp(b, "camp 0 0;calm 2;calm 5;calm 3;kind 20;kind 21;kind 22;kind 23;kind 24;"
                + "kind 25;scout;scout;scout;can 1 4 4");
        return b;
    }

    private static void words() {
        due("scout", told(six(), "scout"), 1);
        due("kind", told(six(), "kind"), 0);
        due("hard", told(six(), "hard - 20"), 0);
        due("hard", told(six(), "24 - hard"), 2);
        due("skill", told(six(), "skill + 0 * kind"), 0);
        FailBadge skilled = six();
        Checks.rule(skilled, "try skill");
        skilled.force(0);
        skilled.day();
        due("skill", skilled.scout(1, 0), 0b010000);
        due("calm", told(six(), "calm"), 2);
        due("next", told(six(), "next"), 5);
        due("day", told(six(), "day"), 0);
        FailBadge b = six();
        b.day();
        b.day();
        due("day", told(b, "day"), 2);
        due("calm is of this day", told(b, "calm - 1"), 1);
        due("tried", told(b, "tried - 1"), 3);
        FailBadge c = six();
        c.attempt(1, 0);
        c.attempt(1, 3);
        due("badges", told(c, "badges"), 2);
        FailBadge d = six();
        d.attempt(0, 4);
        d.attempt(2, 4);
        d.attempt(1, 4);
        d.attempt(2, 2);
        d.cut(1, 4);
        due("others", told(d, "4 and others = 2"), 4);
        FailBadge own = six();
        own.attempt(1, 3);
        told(own, "3 and scout = 1 and others = 0 and badge = 1");
        due("one's own does not count", own.scout(1, 2), 2);
        FailBadge e = six();
        e.attempt(1, 5);
        Checks.rule(e, "try badge * hard + hard % 2");
        e.force(0);
        e.day();
        due("badge: kind 5 again", e.scout(1, 0), 0b100000);
        due("without one: kind 1", e.scout(0, 0), 0b000010);
        FailBadge f = new FailBadge();
        Checks.camp(f, "camp 0 0;kind 20;kind 20;kind 20;kind 0;scout;scout");
        f.attempt(1, 3);
        f.attempt(1, 3);
        due("passed", told(f, "passed"), 2);
    }

    private static void sums() {
        due("/", told(six(), "17 / 5"), 3);
        due("%", told(six(), "17 % 5"), 2);
        due("/ 0", told(six(), "5 / 0"), 0);
        due("% 0", told(six(), "5 % 0"), 0);
        due("* first", told(six(), "1 + 2 * 2"), 5);
        due("from the left", told(six(), "9 - 3 - 2"), 4);
        due("from the left", told(six(), "40 / 4 / 2"), 5);
        due("from the left", told(six(), "7 % 4 * 1"), 3);
        due("+ and -", told(six(), "9 - 3 * 2 + 1"), 4);
        // All goes round in 64 bits, and / and % of what is below 0 go towards 0.
        String text = "99999*99999*99999*99999";
        for (int times : new int[] {1, 3, 5, 7}) {
            String sum = text + "*" + times;
            BigInteger exact = new BigInteger("99999").pow(4).multiply(BigInteger.valueOf(times));
            long value = exact.longValue();
            String sign = value < 0 ? "0-" : "";
            holds(sum + " < 0", value < 0);
            holds(sum + " % 65536 = " + sign + Math.abs(value % 65536), true);
            holds(sum + " / 99991 % 99989 = " + sign + Math.abs(value / 99991 % 99989), true);
            holds(sum + " / 2 * 2 > " + sum, value < 0);
        }
        due("one of each sign", Long.signum(new BigInteger("99999").pow(4).longValue())
                * Long.signum(7 * new BigInteger("99999").pow(4).longValue()), -1);
    }

    private static void holds(String test, boolean want) {
        FailBadge b = six();
        due("rule " + test, Checks.rule(b, "try 1 if " + test), 0);
        b.force(0);
        b.day();
        due(test, b.scout(0, 2), want ? 1 : 0);
    }

    private static void tests() {
        holds("1 < 2", true);
        holds("2 < 2", false);
        holds("2 <= 2", true);
        holds("3 <= 2", false);
        holds("2 = 2", true);
        holds("1 = 2", false);
        holds("2 >= 2", true);
        holds("1 >= 2", false);
        holds("3 > 2", true);
        holds("2 > 2", false);
        holds("not 1 = 2", true);
        holds("not not 1 = 2", false);
        holds("1 = 1 or 1 = 2 and 1 = 2", true);
        holds("1 = 2 and 1 = 2 or 1 = 1", true);
        holds("[1 = 1 or 1 = 2] and 1 = 2", false);
        holds("not 1 = 1 or 1 = 1", true);
        holds("not [1 = 1 or 1 = 1]", false);
        holds("not 1 = 2 and 1 = 2", false);
        holds("1 = 2 or 1 = 2 or 3 = 3", true);
        holds("1 = 1 and 2 = 2 and 3 = 4", false);
        holds("0 - 1 < 0", true);
    }

    private static void eachByHowAllIsThen() {
        FailBadge b = six();
        Checks.rule(b, "try 1 if others = 0");
        b.force(0);
        b.day();
        due("scout 0", b.scout(0, 0), 0b001);
        due("scout 1 sees it", b.scout(1, 0), 0b010);
        due("scout 2 sees both", b.scout(2, 0), 0b100);
    }

    private static void attempt() {
        FailBadge b = two();
        due("attempt", b.attempt(0, 0), 1);
        due("attempt", b.attempt(0, 1), 0);
        due("badge", b.scout(0, 0), 0b010);
        due("skill", b.skill(0, 1), 2);
        for (int i = 0; i < 4; i++) {
            due("attempt", b.attempt(0, 1), i == 3 ? 1 : 0);
        }
        due("skill", b.skill(0, 1), 8);
        due("badge is lost", b.scout(0, 0), 0);
        due("passed", b.scout(0, 1), 2);
        due("tried", b.scout(0, 2), 6);
        due("day stays", b.count(7), 0);
        due("attempt", b.attempt(2, 0), -1);
        due("attempt", b.attempt(-1, 0), -1);
        due("attempt", b.attempt(0, 3), -1);
        due("attempt", b.attempt(0, -1), -1);
        due("acts", b.count(12), 6);
        FailBadge c = new FailBadge();
        Checks.camp(c, "camp 5 9;calm 0;kind 30;scout;can 0 0 20");
        due("attempt", c.attempt(0, 0), 0);
        due("attempt", c.attempt(0, 0), 0);
        due("30 is 30 or more", c.attempt(0, 0), 1);
    }

    private static void sham() {
        FailBadge b = two();
        due("sham", b.sham(0, 0), 0b001);
        due("shammed", b.scout(0, 4), 0b001);
        due("sham again", b.sham(0, 0), -1);
        due("what would not come off", b.sham(0, 1), -1);
        due("sham", b.sham(0, 2), 0b101);
        due("tried nothing", b.scout(0, 2), 0);
        due("acts", b.count(12), 2);
        due("sham", b.sham(2, 0), -1);
        due("sham", b.sham(0, 3), -1);
        due("sham", b.sham(-1, 0), -1);
        due("sham", b.sham(0, -1), -1);
        due("acts", b.count(12), 2);
    }

    private static void teach() {
        FailBadge b = two();
        due("teach", b.teach(0, 1, 0), 1);
        due("teach", b.teach(0, 1, 0), 2);
        due("teach", b.teach(0, 1, 0), 3);
        due("teach", b.teach(0, 1, 0), 4);
        due("no more than they", b.teach(0, 1, 0), -1);
        due("less", b.teach(0, 1, 1), -1);
        due("oneself", b.teach(0, 0, 0), -1);
        due("teacher stays", b.skill(0, 0), 4);
        due("acts", b.count(12), 4);
        due("teach", b.teach(2, 1, 0), -1);
        due("teach", b.teach(0, 2, 0), -1);
        due("teach", b.teach(0, -1, 0), -1);
        due("teach", b.teach(0, 1, 3), -1);
        due("acts", b.count(12), 4);
    }

    private static void cut() {
        FailBadge b = two();
        due("none to cut", b.cut(0, 1), -1);
        b.attempt(0, 1);
        b.sham(0, 0);
        due("cut", b.cut(0, 1), 0b001);
        due("cut again", b.cut(0, 1), -1);
        due("skill stays", b.skill(0, 1), 2);
        due("tried stays", b.scout(0, 2), 1);
        due("cut", b.cut(2, 0), -1);
        due("cut", b.cut(0, 3), -1);
        due("cut", b.cut(0, -1), -1);
        due("acts", b.count(12), 3);
    }

    private static void undo() {
        FailBadge b = two();
        due("undo", b.undo(), -1);
        b.day();
        b.sham(0, 0);
        b.teach(0, 1, 0);
        b.cut(0, 1);
        b.attempt(1, 0);
        due("a sham that was none is no act", b.count(12), 4);
        due("attempt undone", b.undo(), 3);
        due("badges", b.scout(1, 0), 0);
        due("skill", b.skill(1, 0), 1);
        due("tried", b.scout(1, 2), 1);
        due("cut undone", b.undo(), 2);
        due("badges", b.scout(0, 0), 0b010);
        due("teaching undone", b.undo(), 1);
        due("skill", b.skill(1, 0), 0);
        due("day undone", b.undo(), 0);
        due("day", b.count(7), 0);
        due("passed", b.scout(1, 1), 0);
        due("badges", b.count(9), 0);
        due("skill", b.skill(0, 1), 0);
        due("sham", b.sham(0, 0), 1);
        due("sham undone", b.undo(), 0);
        due("badges", b.count(9), 0);
    }

    private static void lastDay() {
        FailBadge b = two();
        b.day();
        b.image(0);
        for (int i = 1; i <= 22; i++) {
            b.attempt(0, 1);
            due("acts", b.count(12), Math.min(20, i + 1));
        }
        for (int i = 19; i >= 0; i--) {
            due("undo", b.undo(), i);
        }
        due("undo", b.undo(), -1);
        due("two tries stay", b.scout(0, 2), 3);
        FailBadge c = new FailBadge();
        Checks.camp(c, "camp 0 0");
        for (int i = 0; i < 999; i++) {
            c.day();
        }
        due("day", c.count(7), 999);
        due("day 999", c.day(), -1);
        due("day", c.count(7), 999);
        due("undo", c.undo(), 19);
        due("day 998", c.day(), 0);
    }
}
