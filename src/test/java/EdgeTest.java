/** Companies and texts of full size, and calls one behind another that use the same rows again. */
public final class EdgeTest {
    private static final Checks CHECKS = new Checks();

    public static void main(String[] args) {
        longRulesOneBehindAnother();
        twelveClauses();
        signsWithAndAndNot();
        sixMatched();
        matchedAnew();
        coverOfFewer();
        rowOfSixKinds();
        restsByDays();
        whatWasAskedIsForgotten();
        tenNotes();
        CHECKS.close();
    }

    private static void due(String call, long got, long want) {
        CHECKS.due(call, got, want);
    }

    /** VALUES are counted for each RULE anew, and six long ones are held. */
    private static void longRulesOneBehindAnother() {
        FailBadge b = Checks.company("camp 0 0;kind 9;kind 9;scout");
        String zeros = "+0".repeat(50);
        for (int i = 0; i < 5; i++) {
            due("long rule", Checks.rule(b, "try 0" + zeros), i);
        }
        due("a wrong one between", Checks.rule(b, "try 0" + zeros + "+"), Checks.fault(106, 0));
        due("the sixth", Checks.rule(b, "try 7 - 6" + zeros + " if kind = 1"), 5);
        due("nothing told of yet", b.ruled(0), 7);
        // Behind day 0 there is {0} by none, {} by five, {1} by the last.
        due("five are alike", b.look(0, 1), 5);
        b.note(0, 0, 1, 1);
        due("the last", b.ruled(0), 1);
        due("the last", b.ruled(1), 5);
        due("it alone", b.look(0, 1), 1);
        b.force(4);
        due("nothing is tried", b.ahead(0, 9, 0), 0);
        b.force(5);
        b.day();
        due("kind 1", b.scout(0, 0), 0b10);
    }

    private static void twelveClauses() {
        String never = "try 1 if 1=2;".repeat(11);
        FailBadge b = Checks.company("camp 0 0;kind 9;scout", never + "try 1 if 1=2");
        b.day();
        due("0 without one that holds", b.scout(0, 2), 0);
        FailBadge c = Checks.company("camp 0 0;kind 9;scout", never + "try 1 if 1=1");
        c.day();
        due("the twelfth holds", c.scout(0, 2), 1);
        FailBadge d = Checks.company("camp 0 0;kind 9;scout", "try 0 if 1=1;try 1");
        d.day();
        due("the first that holds, though it is 0", d.scout(0, 2), 0);
    }

    private static void signsWithAndAndNot() {
        String[] hold = {"1<2", "1<=1", "1<=2", "1=1", "1>=1", "2>=1", "2>1"};
        String[] fail = {"1<1", "2<1", "2<=1", "1=2", "1>=2", "1>1", "1>2"};
        for (String one : hold) {
            due("not " + one, triesIf("not " + one), 0);
            due("not not " + one, triesIf("not not " + one), 1);
            for (String other : hold) {
                due(one + " and " + other, triesIf(one + " and " + other), 1);
            }
            for (String other : fail) {
                due(one + " and " + other, triesIf(one + " and " + other), 0);
                due(one + " or " + other, triesIf(one + " or " + other), 1);
                due(other + " or not " + one, triesIf(other + " or not " + one), 0);
            }
        }
        for (String one : fail) {
            due("not " + one, triesIf("not " + one), 1);
            for (String other : fail) {
                due(one + " or " + other, triesIf(one + " or " + other), 0);
            }
        }
    }

    private static int triesIf(String test) {
        FailBadge b = Checks.company("camp 0 0;kind 9;scout", "try 1 if " + test);
        b.day();
        return b.scout(0, 2);
    }

    private static void sixMatched() {
        String six = "camp 0 0" + ";kind 1".repeat(6) + ";scout".repeat(6);
        // Scout 0 can all, each other one but the kind below their own number.
        String camp = six + ";can 0 0 1;can 0 1 1;can 0 2 1;can 0 3 1;can 0 4 1;can 0 5 1"
                + ";can 1 0 1;can 2 1 1;can 3 2 1;can 4 3 1;can 5 4 1";
        due("match", Checks.company(camp).match(-1), 6);
        due("match", Checks.company(camp).match(0), 5);
        for (int scout = 1; scout < 6; scout++) {
            due("match of " + scout, Checks.company(camp).match(scout), scout - 1);
        }
        FailBadge b = Checks.company(six + ";can 0 0 1;can 0 1 1;can 1 0 1;can 2 1 1;can 2 2 1"
                + ";can 3 0 1;can 3 2 1;can 3 3 1");
        due("match", b.match(3), 3);
        due("match", b.match(2), 2);
        due("match", b.match(1), 0);
        due("match", b.match(0), 1);
        due("match", b.match(4), -1);
        due("match", b.match(5), -1);
        due("match", b.match(-1), 4);
        FailBadge c = Checks.company(six + ";can 0 5 1;can 3 5 1;can 5 5 1");
        due("match", c.match(0), -1);
        due("match", c.match(3), -1);
        due("match", c.match(5), 5);
        due("match", c.match(-1), 1);
        due("cover", c.cover(0), 1);
        due("cover", c.cover(1), 0b000001);
    }

    private static void matchedAnew() {
        FailBadge b = Checks.company("camp 5 0;kind 5;scout");
        due("can't", b.match(0), -1);
        b.attempt(0, 0);
        due("learnt", b.match(0), 0);
        b.undo();
        due("can't", b.match(0), -1);
    }

    private static void coverOfFewer() {
        FailBadge b = Checks.company("camp 0 0;kind 1;scout;scout;can 1 0 1");
        due("scout 1", b.cover(1), 0b10);
        Checks.camp(b, "camp 0 0;kind 1;scout");
        due("nobody now", b.cover(1), 0);
        due("nobody now", b.cover(0), 0);
        due("nobody now", b.match(-1), 0);
    }

    private static void rowOfSixKinds() {
        FailBadge b = Checks.company("camp 0 0" + ";kind 9".repeat(6) + ";scout");
        due("row", b.row(0, 4, 0), 4);
        for (int day = 1; day <= 4; day++) {
            due("row", b.row(0, 4, day), day - 1);
        }
        for (int kind = 0; kind < 4; kind++) {
            b.attempt(0, kind);
        }
        due("row", b.row(0, 4, 0), 6);
        due("row", b.row(0, 4, 1), -1);
        due("row", b.row(0, 4, 2), -1);
        due("row", b.row(0, 4, 3), 4);
        due("row", b.row(0, 4, 4), 5);
    }

    private static void restsByDays() {
        // Kind 0 fails on days of calm 0 and comes off on those of calm 9; kind 1 always fails.
        FailBadge b = Checks.company("camp 0 0;calm 0;calm 9;kind 5;kind 20;scout;scout");
        due("either, on day 0 alone", b.rests(0, 1, 1, 0), 4);
        due("kind 0 would be lost", b.rests(0, 1, 2, 0), 1);
        due("kind 1", b.rests(0, 1, 2, 1), 1);
        due("kind 1", b.rests(0, 1, 2, 2), 1);
        due("kind 0 came off, though it is back", b.rests(0, 1, 3, 0), 1);
        due("kind 1", b.rests(0, 1, 3, 1), 1);
        b.day();
        due("from day 1 on", b.rests(0, 1, 1, 0), 1);
        FailBadge c = Checks.company("camp 5 0;kind 10;kind 30;scout;scout;can 1 1 20");
        due("nobody has learnt enough", c.rests(0, 1, 2, 0), 4);
        due("scout 0 has learnt kind 0, scout 1 both", c.rests(0, 1, 3, 0), 2);
        due("scout 0", c.rests(0, 1, 3, 1), 1);
        due("scout 1", c.rests(0, 1, 3, 2), 0);
    }

    /** What one call asks for (LEARN, KINDS left out, drawn CALM) does not reach the next one. */
    private static void whatWasAskedIsForgotten() {
        FailBadge b = Checks.company("camp 1 0;kind 5;kind 0;scout", "try kind + 1");
        for (int n = 1; n <= 60; n++) {
            due("left out", b.leftOut(1 + n % 30, 1), n % 30 < 5 ? 0b10 : 0b11);
            due("kind 1 comes off", b.ahead(0, 1, 2), 1);
        }
        FailBadge c = Checks.company("camp 1 0;kind 5;scout", "try 1");
        for (int n = 1; n <= 60; n++) {
            c.camps(1, n, 100, 0);
            due("calm is 0 again", c.ahead(0, 1, 2), 0);
            c.leastLearn(n);
            due("one learns 1", c.ahead(0, 1, 1), 1);
        }
        due("nothing is left out", c.leftOut(6, 0), 1);
    }

    private static void tenNotes() {
        FailBadge b = Checks.company("camp 1 0;kind 30;scout");
        for (int i = 0; i < 10; i++) {
            due("note", b.note(60 - 6 * i, 0, 0, 1), i + 1);
        }
        due("all so", b.ruled(0), 1);
        FailBadge c = Checks.company("camp 1 0;kind 30;scout");
        for (int i = 0; i < 10; i++) {
            c.note(i, 0, 0, i < 9 ? 1 : 0);
        }
        due("the tenth is not", c.ruled(0), 0);
    }
}
