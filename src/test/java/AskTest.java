/** Promises 16 to 28: what is asked, by which nothing changes. */
public final class AskTest {
    private static final Checks CHECKS = new Checks();

    public static void main(String[] args) {
        ahead();
        arm();
        off();
        cover();
        match();
        trust();
        row();
        leastLearn();
        calmest();
        leftOut();
        rests();
        pence();
        ring();
        withoutScoutsOrKinds();
        beyondTheLastDay();
        CHECKS.close();
    }

    private static void due(String call, long got, long want) {
        CHECKS.due(call, got, want);
    }

    private static FailBadge two() {
        return Checks.company(ActsTest.TWO);
    }

    private static void ahead() {
        FailBadge b = two();
        due("ahead", b.ahead(0, 0, 0), 0);
        due("ahead", b.ahead(0, 0, 1), 4);
        due("ahead", b.ahead(1, 0, 1), 13);
        due("ahead", b.ahead(0, 1, 0), 0b010);
        due("ahead", b.ahead(0, 4, 0), 0b111);
        due("ahead", b.ahead(0, 4, 1), 10);
        due("ahead", b.ahead(0, 4, 2), 1);
        due("ahead", b.ahead(1, 3, 0), 0b011);
        due("ahead", b.ahead(1, 3, 1), 17);
        due("ahead", b.ahead(1, 3, 2), 1);
        due("ahead", b.ahead(1, 100, 2), 98);
        b.attempt(0, 2);
        due("what came off already counts", b.ahead(0, 4, 2), 2);
        due("n 101", b.ahead(0, 101, 0), -1);
        due("n -1", b.ahead(0, -1, 0), -1);
        due("what 3", b.ahead(0, 0, 3), -1);
        due("what -1", b.ahead(0, 0, -1), -1);
        due("scout 2", b.ahead(2, 0, 0), -1);
        due("scout -1", b.ahead(-1, 0, 0), -1);
    }

    private static void arm() {
        FailBadge b = two();
        due("arm", b.arm(0), 4);
        due("arm", b.arm(1), -2);
        b.day();
        due("the day's own number", b.arm(0), 4);
        due("arm", b.arm(2), -1);
        due("arm", b.arm(-1), -1);
        // Only when the day is 198 is one tried: the arm is whole at the begin of the 200th.
        String camp = "camp 0 0;kind 9;scout";
        due("the 200th", Checks.company(camp, "try 1 if day = 198").arm(0), 199);
        due("the 201st", Checks.company(camp, "try 1 if day = 199").arm(0), -2);
        FailBadge c = Checks.company(camp);
        c.attempt(0, 0);
        due("this day", c.arm(0), 0);
    }

    private static void off() {
        FailBadge b = two();
        due("off", b.off(0), 0);
        due("off", b.off(1), 1);
        b.day();
        due("off", b.off(0), 2);
        due("off", b.off(1), 0);
        due("what 2", b.off(2), -1);
        due("what -1", b.off(-1), -1);
        String camp = "camp 0 0;kind 0;scout;scout;scout";
        due("the 200th", Checks.company(camp, "try 1 if day = 199 and scout > 0").off(0), 199);
        due("the least", Checks.company(camp, "try 1 if day = 199 and scout > 0").off(1), 1);
        due("the 201st", Checks.company(camp, "try 1 if day = 200").off(0), -2);
        due("the 201st", Checks.company(camp, "try 1 if day = 200").off(1), -2);
    }

    private static void cover() {
        FailBadge b = two();
        due("cover", b.cover(0), 2);
        due("cover", b.cover(1), 0b11);
        due("what 2", b.cover(2), -1);
        due("what -1", b.cover(-1), -1);
        FailBadge c = Checks.company("camp 0 0;kind 1;kind 1;kind 1;kind 9;scout;scout;scout;scout;"
                + "can 0 0 1;can 1 0 1;can 1 1 1;can 2 2 1;can 2 1 1;can 3 2 1");
        due("cover", c.cover(0), 2);
        due("{0,2} ahead of {1,2}, {1,3}", c.cover(1), 0b0101);
        FailBadge d = Checks.company("camp 0 0;kind 5;scout");
        due("nobody can anything", d.cover(0), 0);
        due("nobody can anything", d.cover(1), 0);
    }

    private static void match() {
        FailBadge b = two();
        due("match", b.match(-1), 2);
        due("match", b.match(0), 0);
        due("match", b.match(1), 1);
        due("match", b.match(2), -2);
        due("match", b.match(5), -2);
        due("match", b.match(6), -3);
        due("match", b.match(-2), -3);
        // Three who can but two kinds: the first of them has none.
        FailBadge c = Checks.company("camp 0 0;kind 1;kind 1;scout;scout;scout;can 0 0 1;can 0 1 1;"
                + "can 1 0 1;can 2 0 1;can 2 1 1");
        due("match", c.match(-1), 2);
        due("none ahead of kind 0", c.match(0), -1);
        due("match", c.match(1), 0);
        due("match", c.match(2), 1);
        // What one would take first must be left to another who can nothing else.
        FailBadge d = Checks.company("camp 0 0;kind 1;kind 1;scout;scout;can 0 0 1;can 0 1 1;can 1 0 1");
        due("match", d.match(-1), 2);
        due("match", d.match(0), 1);
        due("match", d.match(1), 0);
    }

    private static void trust() {
        FailBadge b = two();
        due("the least", b.trust(), 0);
        b.attempt(0, 1);
        due("fewest badges", b.trust(), 1);
        b.attempt(1, 0);
        due("the least", b.trust(), 0);
        b.attempt(1, 2);
        due("passed most", b.trust(), 1);
        due("nobody", Checks.company("camp 0 0;kind 0").trust(), -2);
    }

    private static void row() {
        FailBadge b = two();
        due("row", b.row(0, 1, 0), 1);
        due("row", b.row(0, 1, 1), 1);
        due("no such day", b.row(0, 1, 2), -2);
        due("no such day", b.row(0, 3, 4), -2);
        due("row", b.row(0, 2, 0), 2);
        due("row", b.row(0, 2, 1), 1);
        due("row", b.row(0, 2, 2), 0);
        due("n 0", b.row(0, 0, 0), -3);
        due("n 5", b.row(0, 5, 0), -3);
        due("what 5", b.row(0, 4, 5), -3);
        due("what -1", b.row(0, 4, -1), -3);
        due("scout 2", b.row(2, 1, 0), -3);
        due("scout -1", b.row(-1, 1, 0), -3);
        // With nothing to win, nothing is tried; a whole arm is kept.
        FailBadge c = Checks.company("camp 0 9;kind 0;kind 5;scout");
        due("row", c.row(0, 4, 0), 0);
        due("nothing", c.row(0, 4, 1), -1);
        due("nothing", c.row(0, 4, 4), -1);
        // One badge in four days is won as late as can be: nothing stands ahead of kind 0.
        FailBadge d = Checks.company("camp 0 0;calm 0;calm 0;calm 9;calm 9;kind 5;scout");
        due("row", d.row(0, 4, 0), 1);
        due("day 1", d.row(0, 4, 1), -1);
        due("day 2", d.row(0, 4, 2), 0);
        due("day 3", d.row(0, 4, 3), -1);
        due("day 4", d.row(0, 4, 4), -1);
    }

    private static void leastLearn() {
        FailBadge b = two();
        due("by none", b.leastLearn(1), -2);
        due("least", b.leastLearn(3), 0);
        due("n 0", b.leastLearn(0), -1);
        due("n 61", b.leastLearn(61), -1);
        FailBadge c = Checks.company("camp 1 0;kind 9;kind 20;scout", "try 1");
        due("9 in two", c.leastLearn(2), 9);
        due("5 in three", c.leastLearn(3), 5);
        due("1 in ten", c.leastLearn(10), 1);
        due("none in one", c.leastLearn(1), -2);
        due("n 60", c.leastLearn(60), 1);
        FailBadge far = Checks.company("camp 1 0;kind 30;scout", "try 1");
        due("it would take 10", far.leastLearn(4), -2);
        due("8 in five", far.leastLearn(5), 8);
        FailBadge d = Checks.company("camp 1 0;kind 9;scout;scout;can 0 0 9", "try 1");
        due("each scout", d.leastLearn(4), 3);
    }

    private static void calmest() {
        FailBadge b = two();
        due("calmest", b.calmest(0, 0), 0);
        due("calmest", b.calmest(0, 1), -2);
        due("calmest", b.calmest(1, 1), 0);
        b.day();
        due("the day's own number", b.calmest(0, 0), 2);
        due("calmest", b.calmest(2, 0), -1);
        due("calmest", b.calmest(-1, 0), -1);
        due("calmest", b.calmest(0, 3), -1);
        due("calmest", b.calmest(0, -1), -1);
        FailBadge c = Checks.company("camp 0 0" + ";calm 0".repeat(11) + ";calm 9;kind 9;scout");
        due("the twelfth", c.calmest(0, 0), 11);
    }

    private static void leftOut() {
        FailBadge b = two();
        due("leftOut", b.leftOut(1, 0), 3);
        due("leftOut", b.leftOut(1, 1), 0b111);
        due("n 0", b.leftOut(0, 0), -1);
        due("n 31", b.leftOut(31, 0), -1);
        due("what 2", b.leftOut(1, 2), -1);
        due("what -1", b.leftOut(1, -1), -1);
        String camp = "camp 0 0;kind 9;kind 0;kind 8;scout;scout";
        FailBadge c = Checks.company(camp, "try hard + 1 if kind = 1 or day < 2");
        due("nothing comes off yet", c.leftOut(2, 0), 0);
        due("nothing comes off yet", c.leftOut(2, 1), 0);
        due("kind 1 comes off then", c.leftOut(3, 0), 1);
        due("kind 1 comes off then", c.leftOut(3, 1), 0b010);
        due("n 30", c.leftOut(30, 1), 0b010);
        // Without the one they would try, they try the next best.
        FailBadge d = Checks.company("camp 0 0;kind 0;kind 0;kind 9;scout", "try 3 - kind");
        due("both must go", d.leftOut(5, 0), 2);
        due("both must go", d.leftOut(5, 1), 0b011);
        // Of two sets of one the least.
        FailBadge e = Checks.company("camp 1 0;kind 1;kind 1;scout", "try badge + 1");
        due("set", e.leftOut(1, 1), 0);
        due("what is tried again comes off", e.leftOut(2, 1), 0b11);
    }

    private static void rests() {
        FailBadge b = two();
        due("rests", b.rests(0, 1, 1, 0), 1);
        due("rests", b.rests(0, 1, 1, 1), 1);
        due("rests", b.rests(0, 1, 1, 2), 0);
        due("rests", b.rests(1, 0, 1, 1), 0);
        due("rests", b.rests(1, 0, 1, 2), 1);
        due("the same", b.rests(0, 0, 1, 0), -1000);
        due("scout 2", b.rests(0, 2, 1, 0), -1000);
        due("scout -1", b.rests(-1, 0, 1, 0), -1000);
        due("n 0", b.rests(0, 1, 0, 0), -1000);
        due("n 21", b.rests(0, 1, 21, 0), -1000);
        due("what 3", b.rests(0, 1, 1, 3), -1000);
        due("what -1", b.rests(0, 1, 1, -1), -1000);
        FailBadge c = Checks.company("camp 0 0;kind 5;kind 0;kind 5;scout;scout;can 1 2 9");
        due("two for 0, one for 1", c.rests(0, 1, 20, 0), 2);
        due("first", c.rests(0, 1, 20, 1), 0);
        due("second", c.rests(0, 1, 20, 2), 0);
        due("no kinds", Checks.company("camp 0 0;scout;scout").rests(0, 1, 1, 0), 0);
        due("no kinds", Checks.company("camp 0 0;scout;scout").rests(0, 1, 1, 1), -2);
        due("no kinds", Checks.company("camp 0 0;scout;scout").rests(0, 1, 1, 2), -2);
        // What came off ahead of these days does not count, a badge from then does.
        FailBadge d = Checks.company("camp 0 0;kind 0;kind 0;scout;scout");
        d.sham(0, 1);
        d.attempt(0, 1);
        d.sham(0, 0);
        due("1 - 1 by kind 1, 0 - 1 by kind 0", d.rests(0, 1, 1, 1), 1);
        due("both the same for 1", d.rests(0, 1, 1, 0), 2);
    }

    private static void pence() {
        FailBadge b = two();
        due("nobody has any", b.pence(100, 0), 0);
        for (int i = 0; i < 4; i++) {
            b.day();
        }
        due("pence", b.pence(10, 0), 6);
        due("pence", b.pence(10, 1), 4);
        due("pence", b.pence(1, 0), 1);
        due("pence", b.pence(1, 1), 0);
        due("pence", b.pence(4, 0), 2);
        due("pence", b.pence(4, 1), 2);
        due("pence", b.pence(0, 0), 0);
        due("pence", b.pence(9999, 0), 5999);
        due("pence", b.pence(9999, 1), 4000);
        due("much 10000", b.pence(10000, 0), -1);
        due("much -1", b.pence(-1, 0), -1);
        due("scout 2", b.pence(1, 2), -1);
        due("scout -1", b.pence(1, -1), -1);
        FailBadge c = Checks.company("camp 0 0;kind 9;scout;scout;scout;scout");
        c.attempt(1, 0);
        c.attempt(2, 0);
        c.attempt(3, 0);
        due("pence", c.pence(5, 0), 0);
        due("of several the least first", c.pence(5, 1), 2);
        due("pence", c.pence(5, 2), 2);
        due("pence", c.pence(5, 3), 1);
    }

    private static void ring() {
        FailBadge b = two();
        due("ring", b.ring(0), 4);
        due("ring", b.ring(1), 1);
        b.day();
        due("the day's own number", b.ring(0), 4);
        due("what 2", b.ring(2), -1);
        due("what -1", b.ring(-1), -1);
        // A badge won on a day of calm 0 and lost on one of calm 9, with no learning.
        FailBadge c = Checks.company("camp 0 0;calm 0;calm 9;calm 9;kind 9;scout", "try 1");
        due("none, badge, none, none: the first is as it is two days later", c.ring(0), 0);
        due("ring", c.ring(1), 2);
        // Badges are lost where skill stays: 40 days of learning, one on which kind 0 comes off.
        FailBadge d = Checks.company("camp 1 0;kind 30;kind 30;scout", "try 99 - skill - kind * 20");
        due("ring", d.ring(0), 41);
        due("ring", d.ring(1), 1);
        String rule = "try 60 - skill if skill < 30";
        FailBadge e = Checks.company("camp 1 0;kind 30;kind 30;scout", rule);
        due("learns for sixty days", e.ring(0), -2);
        due("learns for sixty days", e.ring(1), -2);
        FailBadge f = Checks.company("camp 1 0;kind 30;kind 30;scout;can 0 0 1", rule);
        due("all learnt at the begin of the 60th", f.ring(0), 59);
        due("the same a day later", f.ring(1), 1);
        // Skill 33 with no badge is not skill 1 with none, whatever stands beside it.
        FailBadge g = Checks.company("camp 4 0;kind 30;kind 30;scout;can 0 0 1;can 0 1 1", "try kind");
        due("learnt on days 0 to 7, lost on day 8", g.ring(0), 9);
        due("ring", g.ring(1), 1);
    }

    private static void withoutScoutsOrKinds() {
        FailBadge b = Checks.company("camp 3 4;kind 5");
        due("day", b.day(), 0);
        due("off", b.off(0), -2);
        due("cover", b.cover(0), 0);
        due("cover", b.cover(1), 0);
        due("match", b.match(-1), 0);
        due("match", b.match(0), -2);
        due("leastLearn", b.leastLearn(1), 0);
        due("leftOut", b.leftOut(1, 0), 0);
        due("ring", b.ring(0), 1);
        due("ring", b.ring(1), 1);
        due("ruled", b.ruled(0), 1);
        due("look", b.look(0, 0), -2);
        due("look", b.look(0, 1), -2);
        due("camps", b.camps(10, 60, 100, 0), 0);
        FailBadge c = Checks.company("camp 3 4;scout");
        due("day", c.day(), 0);
        due("can", c.scout(0, 3), 0);
        due("arm", c.arm(0), 1);
        due("row", c.row(0, 4, 0), 0);
        due("row", c.row(0, 4, 4), -1);
        due("match", c.match(0), -1);
        due("leastLearn", c.leastLearn(60), -2);
        due("leftOut", c.leftOut(30, 1), 0);
        due("look", c.look(9, 0), 0);
        due("look", c.look(9, 1), 1);
    }

    private static void beyondTheLastDay() {
        FailBadge b = Checks.company("camp 0 0;kind 1;kind 0;scout", "try 1 if day > 1100 and kind = 1");
        for (int i = 0; i < 999; i++) {
            b.day();
        }
        due("day", b.day(), -1);
        due("off", b.off(0), 1101);
        due("ahead", b.ahead(0, 100, 2), 0);
        FailBadge c = Checks.company("camp 0 0;kind 1;kind 0;scout", "try 1 if day > 1090 and kind = 1");
        for (int i = 0; i < 999; i++) {
            c.day();
        }
        due("ahead", c.ahead(0, 100, 2), 8);
        due("day", c.count(7), 999);
    }
}
