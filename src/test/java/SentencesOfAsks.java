/** Sentences of what is asked: the third part of the terms, and promises 16 to 28. */
final class SentencesOfAsks {
    private static final int[] NO_NUMBERS = {-1, -2, Integer.MIN_VALUE, 6, 7, Integer.MAX_VALUE};
    private static final int[] NO_WHATS = {-1, -2, Integer.MIN_VALUE, 2, 3, Integer.MAX_VALUE};
    private static final String ONE = "camp 0 0;kind 9;scout";
    private static final String EASY = "camp 0 0;kind 0;scout";

    private final Sentences say;

    SentencesOfAsks(Sentences say) {
        this.say = say;
    }

    void all() {
        nothingChanges();
        ahead();
        arm();
        off();
        can();
        cover();
        match();
        trust();
        row();
        leastLearn();
        calmest();
        leftOut();
        shammed();
        rests();
        pence();
        ring();
    }

    /** A company on DAY 1 on which nobody has tried anything. */
    private static FailBadge onDayOne(String camp, String rule) {
        FailBadge b = Checks.company(camp, rule);
        b.day();
        return b;
    }

    private void nothingChanges() {
        say.terms("(By what is asked nothing changes; DAYS go on by the RULE IN FORCE.)");
        FailBadge b = Checks.company("camp 2 1;calm 3;calm 0;kind 6;kind 10;kind 2;scout;scout"
                + ";can 0 0 4;can 1 1 8;can 1 2 5", "try hard");
        Checks.rule(b, "try 0");
        b.day();
        b.sham(1, 2);
        b.note(1, 0, 1, 1);
        b.seed(5);
        String before = Checks.everything(b);
        for (int what = -1; what <= 4; what++) {
            b.ahead(1, 50, what);
            b.off(what);
            b.cover(what);
            b.match(what);
            b.row(0, 3, what);
            b.leftOut(20, what);
            b.rests(0, 1, 20, what);
            b.ring(what);
            b.look(30, what);
            b.camps(3, 30, 50, what);
            say.due("what " + what, Checks.everything(b).equals(before) ? 1 : 0, 1);
        }
        b.arm(0);
        b.trust();
        b.leastLearn(60);
        b.calmest(0, 1);
        b.pence(50, 0);
        say.due("the rest", Checks.everything(b).equals(before) ? 1 : 0, 1);
        say.due("by rule 0 kind 1 is tried on", b.ahead(0, 1, 1), 8);
        b.force(1);
        say.due("by rule 1 nothing is", b.ahead(0, 1, 1), 6);
    }

    private void ahead() {
        say.terms("AHEAD n DAYS (0 to 100)");
        FailBadge b = Checks.company("camp 1 0;kind 30;kind 30;scout;can 0 1 5", "try 1");
        say.due("0 days", b.ahead(0, 0, 2), 0);
        say.due("31 days", b.ahead(0, 31, 2), 1);
        say.due("100 days", b.ahead(0, 100, 2), 70);
        say.due("-1 days", b.ahead(0, -1, 2), -1);
        say.due("101 days", b.ahead(0, 101, 2), -1);

        say.terms("BADGES of a SCOUT, as bits; SKILL of all KINDS, together; how often PASSED.");
        int[][] want = {{0, 0, 5, 0}, {1, 1, 6, 0}, {30, 1, 35, 0}, {31, 0, 35, 1}, {32, 0, 35, 2}};
        for (int[] row : want) {
            for (int what = 0; what < 3; what++) {
                say.due(row[0] + " days, what " + what, b.ahead(0, row[0], what), row[what + 1]);
            }
        }
        FailBadge all = Checks.company("camp 0 0" + ";kind 30".repeat(6) + ";scout".repeat(6)
                + ";can 4 0 3;can 4 5 20;can 5 0 1;can 5 5 7");
        say.due("skill of scout 3", all.ahead(3, 0, 1), 0);
        say.due("skill of scout 4", all.ahead(4, 0, 1), 23);
        say.due("skill of scout 5", all.ahead(5, 0, 1), 8);
        FailBadge c = Checks.company("camp 0 0" + ";kind 0".repeat(6) + ";scout");
        for (int kind = 0; kind < 6; kind++) {
            c.sham(0, kind);
        }
        say.due("all badges", c.ahead(0, 0, 0), 0b111111);
        say.due("with a whole arm nothing is tried", c.ahead(0, 100, 0), 0b111111);
        c.attempt(0, 0);
        say.due("what passed before counts, too", c.ahead(0, 1, 2), 2);

        say.promise(16, "AHEAD what 0: BADGES, as bits, 1: SKILL together, 2: how often.");
        say.due("badges", b.ahead(0, 2, 0), 1);
        say.due("skill", b.ahead(0, 2, 1), 7);
        say.due("how often", b.ahead(0, 33, 2), 3);

        say.promise(16, "NONE without these.");
        for (int what : new int[] {-1, 3, Integer.MIN_VALUE, Integer.MAX_VALUE}) {
            say.due("what " + what, b.ahead(0, 1, what), -1);
        }
        for (int n : new int[] {-1, 101, Integer.MIN_VALUE, Integer.MAX_VALUE}) {
            say.due("n " + n, b.ahead(0, n, 0), -1);
        }
        for (int no : NO_NUMBERS) {
            say.due("scout " + no, b.ahead(no, 1, 0), -1);
        }
        say.due("scout 1 of 1", b.ahead(1, 1, 0), -1);
        say.due("without a camp", new FailBadge().ahead(0, 0, 0), -1);
    }

    private void arm() {
        say.terms("ARM of a SCOUT: the first DAY, this one the first, of 200, at whose begin they"
                + " have BADGES of all KINDS.");
        FailBadge b = Checks.company(ONE);
        b.attempt(0, 0);
        say.due("this one", b.arm(0), 0);
        say.due("at the begin of the next one", Checks.company(ONE).arm(0), 1);
        say.due("the 200th", Checks.company(ONE, "try 1 if day = 198").arm(0), 199);
        say.due("the 201st", Checks.company(ONE, "try 1 if day = 199").arm(0), -2);
        say.due("the 200th from day 1", onDayOne(ONE, "try 1 if day = 199").arm(0), 200);
        say.due("the 201st from day 1", onDayOne(ONE, "try 1 if day = 200").arm(0), -2);
        say.due("of no kinds", onDayOne("camp 0 0;scout", "try 1").arm(0), 1);
        say.due("six kinds", Checks.company("camp 0 0" + ";kind 9".repeat(6) + ";scout").arm(0), 6);
        say.due("all but one", Checks.company("camp 0 0;kind 9;kind 9;kind 0;scout").arm(0), -2);

        say.promise(17, "ARM");
        FailBadge two = Checks.company("camp 0 0;kind 9;kind 9;scout;scout");
        two.attempt(1, 0);
        say.due("scout 0", two.arm(0), 2);
        say.due("scout 1", two.arm(1), 1);

        say.promise(17, "-2: at none of these");
        say.due("comes off for ever", Checks.company(EASY).arm(0), -2);

        say.promise(17, "NONE without that SCOUT.");
        for (int no : NO_NUMBERS) {
            say.due("scout " + no, two.arm(no), -1);
        }
        say.due("scout 2 of 2", two.arm(2), -1);
        say.due("without a camp", new FailBadge().arm(0), -1);
    }

    private void off() {
        say.terms("OFF: the first DAY, this one the first, of 200, on which something comes off"
                + " for anybody");
        say.due("this one", Checks.company(EASY).off(0), 0);
        say.due("this one is day 1", onDayOne(EASY, "try day").off(0), 1);
        say.due("the 200th", Checks.company(EASY, "try 1 if day = 199").off(0), 199);
        say.due("the 201st", Checks.company(EASY, "try 1 if day = 200").off(0), -2);
        say.due("the 200th from day 1", onDayOne(EASY, "try 1 if day = 200").off(0), 200);
        say.due("the 201st from day 1", onDayOne(EASY, "try 1 if day = 201").off(0), -2);

        say.terms("for whom, the least of these.");
        String six = "camp 0 0;kind 0" + ";scout".repeat(6);
        say.due("all", Checks.company(six).off(1), 0);
        say.due("3 and 5", Checks.company(six, "try 1 if scout = 3 or scout = 5").off(1), 3);
        say.due("5", Checks.company(six, "try 1 if scout = 5 or day = 1").off(1), 5);

        say.promise(18, "OFF what 0: the DAY, 1: for whom");
        FailBadge b = Checks.company(six, "try 1 if scout = 2 and day = 7");
        say.due("the day", b.off(0), 7);
        say.due("for whom", b.off(1), 2);

        say.promise(18, "-2: on none of these.");
        say.due("the day", Checks.company(ONE).off(0), -2);
        say.due("for whom", Checks.company(ONE).off(1), -2);
        say.due("nobody there", Checks.company("camp 0 0;kind 0").off(0), -2);
        say.due("nobody there", Checks.company("camp 0 0;kind 0").off(1), -2);

        say.promise(18, "NONE for others, or without a CAMP.");
        for (int what : NO_WHATS) {
            say.due("what " + what, b.off(what), -1);
        }
        say.due("without a camp", new FailBadge().off(0), -1);
        say.due("without a camp", new FailBadge().off(1), -1);
    }

    private void can() {
        say.terms("CAN: KINDS that would come off for a SCOUT now, as bits.");
        FailBadge b = Checks.company("camp 0 0;calm 3;calm 2;kind 8;kind 0;kind 3;scout;can 0 0 5",
                "try 0");
        say.due("8 of 8, 3 of 0, 3 of 3", b.scout(0, 3), 0b111);
        b.day();
        say.due("7 of 8, 2 of 0, 2 of 3", b.scout(0, 3), 0b010);
        say.due("no kinds", Checks.company("camp 0 0;scout").scout(0, 3), 0);
        say.due("six", Checks.company("camp 0 0" + ";kind 0".repeat(6) + ";scout").scout(0, 3), 63);
    }

    private static final String FOUR = "camp 0 0;kind 1;kind 1;kind 1;kind 1;scout;scout;scout;scout";

    private void cover() {
        say.terms("COVER: the fewest SCOUTS for one of whom, at least, each KIND would come off now"
                + " that would for anybody: how many");
        say.due("nobody can anything", Checks.company(FOUR).cover(0), 0);
        say.due("nobody there", Checks.company("camp 0 0;kind 0").cover(0), 0);
        say.due("no kinds", Checks.company("camp 0 0;scout").cover(0), 0);
        say.due("one can all that any can",
                Checks.company(FOUR + ";can 1 0 1;can 1 2 1;can 0 0 1;can 3 2 1").cover(0), 1);
        FailBadge six = Checks.company("camp 0 0" + ";kind 1".repeat(6) + ";scout".repeat(6)
                + ";can 0 5 1;can 1 4 1;can 2 3 1;can 3 2 1;can 4 1 1;can 5 0 1");
        say.due("all six", six.cover(0), 6);
        say.due("all six", six.cover(1), 0b111111);
        // The one who can most is of no use: two others are enough.
        FailBadge greedy = Checks.company("camp 0 0" + ";kind 1".repeat(6) + ";scout;scout;scout"
                + ";can 0 0 1;can 0 1 1;can 0 3 1;can 0 4 1;can 1 0 1;can 1 1 1;can 1 2 1"
                + ";can 2 3 1;can 2 4 1;can 2 5 1");
        say.due("two", greedy.cover(0), 2);
        say.due("two", greedy.cover(1), 0b110);

        say.terms("of several sets the least as bits.");
        FailBadge ties = Checks.company(FOUR + ";can 0 0 1;can 0 1 1;can 3 2 1;can 3 3 1"
                + ";can 1 0 1;can 1 2 1;can 2 1 1;can 2 3 1");
        say.due("1 and 2, not 0 and 3", ties.cover(1), 0b0110);
        say.due("the first of four alike",
                Checks.company("camp 0 0;kind 0;scout;scout;scout;scout").cover(1), 0b0001);

        say.promise(19, "COVER what 0: how many, 1: the set.");
        say.due("how many", ties.cover(0), 2);
        say.due("the set", ties.cover(1), 6);
        say.due("the set of nobody", Checks.company(FOUR).cover(1), 0);

        say.promise(19, "NONE for others, or without a CAMP.");
        for (int what : NO_WHATS) {
            say.due("what " + what, ties.cover(what), -1);
        }
        say.due("without a camp", new FailBadge().cover(0), -1);
        say.due("without a camp", new FailBadge().cover(1), -1);
    }

    private void matched(FailBadge b, int... want) {
        int most = 0;
        for (int kind : want) {
            most += kind < 0 ? 0 : 1;
        }
        say.due("match", b.match(-1), most);
        for (int scout = 0; scout < want.length; scout++) {
            say.due("match of " + scout, b.match(scout), want[scout]);
        }
    }

    private void match() {
        say.terms("MATCH: SCOUTS and KINDS that would come off for them now, one for each at most:"
                + " the most");
        matched(Checks.company(FOUR), -1, -1, -1, -1);
        matched(Checks.company(FOUR + ";can 0 0 1;can 0 1 1;can 1 0 1"), 1, 0, -1, -1);
        matched(Checks.company(FOUR + ";can 0 1 1;can 0 2 1;can 1 1 1;can 2 2 1;can 2 3 1"),
                2, 1, 3, -1);
        matched(Checks.company("camp 0 0" + ";kind 1".repeat(6) + ";scout".repeat(6)
                + ";can 0 5 1;can 1 4 1;can 2 3 1;can 3 2 1;can 4 1 1;can 5 0 1"), 5, 4, 3, 2, 1, 0);
        matched(Checks.company("camp 0 0" + ";kind 0".repeat(6) + ";scout".repeat(6)),
                0, 1, 2, 3, 4, 5);
        matched(Checks.company("camp 0 0;kind 0;kind 0;scout"), 0);
        matched(Checks.company(FOUR + ";can 0 0 1;can 2 0 1;can 2 1 1;can 3 1 1;can 3 3 1"),
                0, -1, 1, 3);
        FailBadge fewer = Checks.company("camp 0 0" + ";kind 0".repeat(6) + ";scout".repeat(6));
        say.due("six", fewer.match(-1), 6);
        Checks.camp(fewer, "camp 0 0;kind 0;kind 0;scout");
        say.due("the first of one", fewer.match(0), 0);
        say.due("one", fewer.match(-1), 1);

        say.terms("the first row (of SCOUT 0 first; none ahead of KIND 0).");
        matched(Checks.company("camp 0 0;kind 0;scout;scout;scout"), -1, -1, 0);
        matched(Checks.company("camp 0 0;kind 0;kind 0;scout;scout;scout"), -1, 0, 1);
        matched(Checks.company(FOUR + ";can 0 0 1;can 1 0 1;can 1 3 1;can 2 3 1"), -1, 0, 3, -1);
        matched(Checks.company(FOUR + ";can 0 3 1;can 0 0 1"), 0, -1, -1, -1);

        say.promise(20, "MATCH what NONE: how many, 0 to 5: the KIND for that SCOUT (NONE: none");
        matched(Checks.company("camp 0 0;kind 0;scout;scout"), -1, 0);
        FailBadge b = Checks.company("camp 0 0;calm 1;calm 0;kind 1;scout", "try 0");
        matched(b, 0);
        b.day();
        matched(b, -1);
        b.undo();
        say.due("now, though how many was not asked", b.match(0), 0);

        say.promise(20, "-2: there is none such");
        for (int scout = 1; scout <= 5; scout++) {
            say.due("scout " + scout + " of 1", b.match(scout), -2);
        }
        say.due("scout 0 of none", Checks.company("camp 0 0;kind 0").match(0), -2);

        say.promise(20, "-3 for others, or without a CAMP.");
        for (int what : new int[] {-2, -3, Integer.MIN_VALUE, 6, Integer.MAX_VALUE}) {
            say.due("what " + what, b.match(what), -3);
        }
        for (int what = -2; what <= 6; what++) {
            say.due("without a camp, what " + what, new FailBadge().match(what), -3);
        }
    }

    private void trust() {
        say.terms("TRUST now: the SCOUT with fewest BADGES");
        FailBadge b = Checks.company("camp 0 0;kind 9;kind 9;kind 0;scout;scout;scout");
        b.attempt(0, 0);
        b.attempt(0, 1);
        b.attempt(1, 0);
        b.attempt(2, 0);
        b.attempt(2, 1);
        say.due("2, 1, 2", b.trust(), 1);

        say.terms("of several the one who PASSED most");
        b.attempt(1, 1);
        b.attempt(2, 2);
        say.due("0, 0, 1 passed", b.trust(), 2);
        b.attempt(1, 2);
        b.attempt(1, 2);
        say.due("0, 2, 1 passed", b.trust(), 1);
        b.sham(1, 2);
        say.due("with a badge more", b.trust(), 2);

        say.terms("of these the least.");
        FailBadge six = Checks.company("camp 0 0;kind 9" + ";scout".repeat(6));
        say.due("all alike", six.trust(), 0);
        six.attempt(0, 0);
        say.due("all others alike", six.trust(), 1);

        say.promise(21, "TRUST");
        for (int scout = 1; scout < 5; scout++) {
            six.attempt(scout, 0);
        }
        say.due("the last", six.trust(), 5);

        say.promise(21, "-2: there is nobody");
        say.due("nobody", Checks.company("camp 0 0;kind 9").trust(), -2);

        say.promise(21, "NONE without a CAMP.");
        say.due("without a camp", new FailBadge().trust(), -1);
    }

    private void rowOf(FailBadge b, int badges, int... kinds) {
        say.due("badges in " + kinds.length, b.row(0, kinds.length, 0), badges);
        for (int day = 1; day <= 4; day++) {
            say.due("day " + day + " of " + kinds.length, b.row(0, kinds.length, day),
                    day <= kinds.length ? kinds[day - 1] : -2);
        }
    }

    private void row() {
        say.terms("ROW of a SCOUT for n DAYS (1 to 4): of all rows of KINDS, or nothing, that they"
                + " TRY on these, one each, in place of what the RULE says (others by it)");
        FailBadge byRule = Checks.company("camp 0 0;calm 0;calm 9;kind 5;scout;scout", "try 1");
        rowOf(byRule, 1, 0);
        rowOf(byRule, 1, 0, -1);
        byRule.day();
        rowOf(byRule, 1, -1);
        rowOf(byRule, 1, -1, -1);
        rowOf(Checks.company(ONE, "try 0"), 1, 0);
        say.due("0 days", byRule.row(0, 0, 0), -3);
        say.due("5 days", byRule.row(0, 5, 0), -3);

        say.terms("those by which they have most BADGES then; of these the first (nothing ahead of"
                + " KIND 0): how many; the KINDS.");
        FailBadge two = Checks.company("camp 0 0;kind 9;kind 9;scout");
        rowOf(two, 1, 0);
        rowOf(two, 2, 0, 1);
        rowOf(two, 2, -1, 0, 1);
        rowOf(two, 2, -1, -1, 0, 1);
        two.attempt(0, 0);
        rowOf(two, 2, 1);
        rowOf(two, 2, -1, -1, -1, 1);
        two.attempt(0, 1);
        rowOf(two, 2, -1, -1, -1, -1);
        rowOf(Checks.company(EASY), 0, -1, -1, -1, -1);
        rowOf(Checks.company("camp 0 0;scout"), 0, -1, -1);
        // Where all comes off on one of the days, both must be tried on the others.
        rowOf(Checks.company("camp 5 0;calm 0;calm 0;calm 9;kind 5;kind 9;scout"), 2, 0, 1, -1);
        rowOf(Checks.company("camp 0 0;calm 9;calm 0;calm 0;kind 5;kind 9;scout"), 2, -1, 0, 1);
        rowOf(Checks.company("camp 0 0;calm 9;calm 0;kind 5;kind 10;scout"), 2, 1, 0);

        say.promise(22, "ROW what 0: how many, 1 to 4: the KIND on that DAY (NONE: nothing");
        FailBadge six = Checks.company("camp 0 0" + ";kind 9".repeat(6) + ";scout;scout");
        rowOf(six, 4, 0, 1, 2, 3);
        six.attempt(1, 2);
        say.due("scout 1", six.row(1, 4, 0), 5);
        say.due("scout 1 on day 3", six.row(1, 4, 3), 3);
        say.due("nothing", Checks.company(EASY).row(0, 4, 4), -1);

        say.promise(22, "-2: there is no such DAY");
        for (int n = 1; n <= 4; n++) {
            for (int day = n + 1; day <= 4; day++) {
                say.due("day " + day + " of " + n, six.row(0, n, day), -2);
            }
        }

        say.promise(22, "-3 without these.");
        for (int no : NO_NUMBERS) {
            say.due("scout " + no, six.row(no, 1, 0), -3);
        }
        for (int n : new int[] {0, -1, 5, Integer.MIN_VALUE, Integer.MAX_VALUE}) {
            say.due("n " + n, six.row(0, n, 0), -3);
        }
        for (int what : new int[] {-1, 5, Integer.MIN_VALUE, Integer.MAX_VALUE}) {
            say.due("what " + what, six.row(0, 4, what), -3);
        }
        say.due("scout 2 of 2, day 2 of 1", six.row(2, 1, 2), -3);
        say.due("without a camp", new FailBadge().row(0, 1, 0), -3);
    }

    private void leastLearn() {
        say.terms("LEAST LEARN for n DAYS (1 to 60)");
        FailBadge late = Checks.company(EASY, "try 1 if day = 59");
        say.due("59 days", late.leastLearn(59), -2);
        say.due("60 days", late.leastLearn(60), 0);
        say.due("1 day", Checks.company(EASY).leastLearn(1), 0);
        say.due("0 days", late.leastLearn(0), -1);
        say.due("61 days", late.leastLearn(61), -1);

        say.terms("the least LEARN, 0 to 9, in place of what it is, by which something comes off for"
                + " each SCOUT in these.");
        FailBadge nine = Checks.company("camp 5 0;kind 9;scout", "try 1");
        say.due("none is enough for one day", nine.leastLearn(1), -2);
        say.due("9 for two", nine.leastLearn(2), 9);
        say.due("5 for three", nine.leastLearn(3), 5);
        say.due("1 for ten", nine.leastLearn(10), 1);
        say.due("2 for nine", nine.leastLearn(9), 2);
        say.due("it would take 10", Checks.company("camp 5 0;kind 10;scout", "try 1").leastLearn(2),
                -2);
        say.due("0", Checks.company("camp 5 9;kind 9;scout", "try 1").leastLearn(1), 0);
        FailBadge both = Checks.company("camp 1 0;kind 9;scout;scout;can 0 0 9", "try 1");
        say.due("each", both.leastLearn(4), 3);
        FailBadge before = Checks.company(EASY, "try 0");
        before.attempt(0, 0);
        say.due("what came off before is not in these", before.leastLearn(60), -2);
        say.due("of nobody each", Checks.company("camp 1 0;kind 9").leastLearn(1), 0);

        say.promise(23, "LEAST LEARN");
        say.due("3 for four", nine.leastLearn(4), 3);

        say.promise(23, "-2: by none");
        say.due("nothing to try", Checks.company("camp 1 0;scout").leastLearn(60), -2);

        say.promise(23, "NONE without these, or a CAMP.");
        for (int n : new int[] {0, -1, 61, Integer.MIN_VALUE, Integer.MAX_VALUE}) {
            say.due("n " + n, nine.leastLearn(n), -1);
        }
        say.due("without a camp", new FailBadge().leastLearn(1), -1);
    }

    private void calmest() {
        say.terms("CALMEST for a SCOUT and a KIND: the first DAY, this one the first, of 60, on which"
                + " it would come off with their SKILL now.");
        FailBadge b = Checks.company("camp 5 0" + ";calm 0".repeat(11) + ";calm 9;kind 9;kind 10"
                + ";kind 0;scout;scout;can 1 1 1", "try 0");
        say.due("9 of 9 on day 11", b.calmest(0, 0), 11);
        say.due("9 of 10 never", b.calmest(0, 1), -2);
        say.due("10 of 10 on day 11", b.calmest(1, 1), 11);
        say.due("this one", b.calmest(0, 2), 0);
        for (int day = 0; day < 12; day++) {
            b.day();
        }
        say.due("comes round on day 23", b.calmest(0, 0), 23);
        say.due("this one is day 12", b.calmest(0, 2), 12);
        FailBadge c = Checks.company("camp 5 0;calm 0;calm 4;kind 5;scout", "try 0");
        say.due("4 of 5, though one would learn", c.calmest(0, 0), -2);
        c.attempt(0, 0);
        say.due("learnt", c.calmest(0, 0), 0);
        FailBadge round = Checks.company("camp 0 0;calm 0;calm 4;calm 0;kind 4;scout", "try 0");
        int[] days = {1, 1, 4, 4, 4, 7};
        for (int day = 0; day < days.length; day++) {
            say.due("from day " + day, round.calmest(0, 0), days[day]);
            round.day();
        }

        say.promise(24, "CALMEST");
        say.due("the day's own number", round.calmest(0, 0), 7);

        say.promise(24, "-2: on none of these");
        say.due("never", Checks.company(ONE).calmest(0, 0), -2);

        say.promise(24, "NONE without these.");
        for (int no : NO_NUMBERS) {
            say.due("scout " + no, b.calmest(no, 0), -1);
            say.due("kind " + no, b.calmest(0, no), -1);
        }
        say.due("scout 2 of 2", b.calmest(2, 0), -1);
        say.due("kind 3 of 3", b.calmest(0, 3), -1);
        say.due("without a camp", new FailBadge().calmest(0, 0), -1);
    }

    private void leftOut() {
        say.terms("LEFT OUT for n DAYS (1 to 30)");
        FailBadge late = Checks.company(EASY, "try 1 if day = 29");
        say.due("29 days", late.leftOut(29, 0), 0);
        say.due("30 days", late.leftOut(30, 0), 1);
        say.due("1 day", Checks.company(EASY).leftOut(1, 0), 1);
        say.due("0 days", late.leftOut(0, 0), -1);
        say.due("31 days", late.leftOut(31, 0), -1);

        say.terms("the fewest KINDS that nobody TRIES any more (by DAYS), so that nothing comes off"
                + " for anybody in these: how many");
        say.due("none", Checks.company(ONE).leftOut(30, 0), 0);
        String six = "camp 0 0" + ";kind 0".repeat(6) + ";scout";
        say.due("all", Checks.company(six).leftOut(1, 0), 6);
        say.due("all", Checks.company(six).leftOut(30, 1), 0b111111);
        say.due("no kinds", Checks.company("camp 0 0;scout").leftOut(30, 0), 0);
        say.due("nobody there", Checks.company("camp 0 0;kind 0").leftOut(30, 0), 0);
        FailBadge next = Checks.company("camp 0 0;kind 0;kind 0;kind 9;scout", "try 3 - kind");
        say.due("the next best is tried instead", next.leftOut(1, 0), 2);
        say.due("the next best is tried instead", next.leftOut(1, 1), 0b011);
        FailBadge second = Checks.company("camp 0 0;kind 9;kind 0;scout;scout",
                "try 1 if kind = scout");
        say.due("for anybody", second.leftOut(1, 1), 0b10);

        say.terms("of several sets the least as bits.");
        FailBadge either = Checks.company("camp 0 0;kind 9;kind 0;scout",
                "try 1 if kind = 0 and badges = 0;try 1 if kind = 1 and badges = 1");
        say.due("one day", either.leftOut(1, 1), 0);
        say.due("without kind 0 there is no badge for kind 1", either.leftOut(2, 0), 1);
        say.due("either of two: the least", either.leftOut(2, 1), 0b01);

        say.promise(25, "LEFT OUT what 0: how many, 1: the set.");
        say.due("how many", Checks.company("camp 0 0;kind 9;kind 0;scout").leftOut(2, 0), 1);
        say.due("the set", Checks.company("camp 0 0;kind 9;kind 0;scout").leftOut(2, 1), 0b10);

        say.promise(25, "NONE without these, or a CAMP.");
        for (int n : new int[] {0, -1, 31, Integer.MIN_VALUE, Integer.MAX_VALUE}) {
            say.due("n " + n, either.leftOut(n, 0), -1);
        }
        for (int what : NO_WHATS) {
            say.due("what " + what, either.leftOut(1, what), -1);
        }
        say.due("without a camp", new FailBadge().leftOut(1, 0), -1);
    }

    private void shammed() {
        say.terms("SHAMMED of a SCOUT: BADGES they have of KINDS that would come off for them now,"
                + " as bits.");
        FailBadge b = Checks.company("camp 0 0;calm 3;calm 2;kind 8;kind 9;kind 0;scout;can 0 0 5",
                "try 0");
        b.sham(0, 0);
        b.attempt(0, 1);
        say.due("8 of 8, but not 3 of 9", b.scout(0, 4), 0b001);
        b.sham(0, 2);
        say.due("kind 2, too", b.scout(0, 4), 0b101);
        b.day();
        say.due("7 of 8 on day 1", b.scout(0, 4), 0b100);
        // A badge that was earned counts, too, once one has learnt enough.
        FailBadge c = Checks.company("camp 5 0;kind 5;scout");
        c.attempt(0, 0);
        say.due("learnt", c.scout(0, 4), 1);
    }

    private void restsOf(FailBadge b, int n, int many, int first, int second) {
        say.due("rests in " + n, b.rests(0, 1, n, 0), many);
        say.due("first in " + n, b.rests(0, 1, n, 1), first);
        say.due("second in " + n, b.rests(0, 1, n, 2), second);
    }

    private void rests() {
        say.terms("RESTS of two SCOUTS for n DAYS (1 to 20): each TRIES one KIND, the same, on all of"
                + " these, others by the RULE");
        // Kind 0 fails on days 0 to 18 and comes off on day 19, the twentieth; kind 1 fails on all.
        FailBadge b = Checks.company("camp 1 0;kind 20;kind 30;scout;scout;can 0 0 1;can 1 0 1",
                "try 0");
        restsOf(b, 1, 4, 0, 0);
        restsOf(b, 19, 4, 0, 0);
        restsOf(b, 20, 1, 1, 1);
        say.due("0 days", b.rests(0, 1, 0, 0), -1000);
        say.due("21 days", b.rests(0, 1, 21, 0), -1000);

        say.terms("each has as many BADGES then, less how often something came off for them in"
                + " these");
        FailBadge c = Checks.company("camp 0 0;kind 0;kind 0;kind 9;scout;scout");
        restsOf(c, 1, 1, 2, 2);
        // Kind 0 fails on even days and comes off on odd ones; kind 1 fails on all.
        FailBadge byDays = Checks.company("camp 0 0;calm 0;calm 9;kind 5;kind 20;scout;scout");
        restsOf(byDays, 1, 4, 0, 0);
        restsOf(byDays, 2, 1, 1, 1);
        restsOf(byDays, 3, 1, 1, 1);
        byDays.day();
        restsOf(byDays, 1, 1, 1, 1);
        c.attempt(0, 2);
        c.attempt(0, 0);
        say.due("kind 2 is had already, and is no less by trying", c.rests(0, 1, 5, 0), 1);
        c.cut(0, 2);
        c.sham(0, 0);
        say.due("a badge from before stays", c.rests(0, 1, 1, 1), 2);
        FailBadge easy = Checks.company("camp 0 0;kind 0;kind 0;scout;scout");
        easy.sham(0, 0);
        say.due("1 - 3 by kind 1, 0 - 3 by kind 0", easy.rests(0, 1, 3, 1), 1);
        say.due("both for scout 1", easy.rests(0, 1, 3, 0), 2);

        say.terms("twos of which neither would have more by another one: how many; the first"
                + " (by the first one, then the second one).");
        FailBadge d = Checks.company("camp 0 0;kind 0;kind 9;kind 9;scout;scout;can 1 1 9");
        restsOf(d, 4, 2, 1, 2);
        say.due("the other way round", d.rests(1, 0, 4, 1), 2);
        say.due("the other way round", d.rests(1, 0, 4, 2), 1);
        FailBadge six = Checks.company("camp 0 0" + ";kind 9".repeat(6) + ";scout".repeat(6));
        say.due("all 36", six.rests(4, 5, 20, 0), 36);

        say.promise(26, "RESTS what 0: how many, 1, 2: KINDS of the first");
        restsOf(d, 1, 2, 1, 2);

        say.promise(26, "-2: there is none");
        restsOf(Checks.company("camp 0 0;scout;scout"), 1, 0, -2, -2);

        say.promise(26, "-1000 without these (unlike).");
        for (int no : NO_NUMBERS) {
            say.due("one " + no, d.rests(no, 1, 1, 0), -1000);
            say.due("other " + no, d.rests(0, no, 1, 0), -1000);
        }
        say.due("one 2 of 2", d.rests(2, 1, 1, 0), -1000);
        say.due("other 2 of 2", d.rests(0, 2, 1, 0), -1000);
        say.due("alike", d.rests(0, 0, 1, 0), -1000);
        say.due("alike", d.rests(1, 1, 1, 1), -1000);
        for (int n : new int[] {0, -1, 21, Integer.MIN_VALUE, Integer.MAX_VALUE}) {
            say.due("n " + n, d.rests(0, 1, n, 0), -1000);
        }
        for (int what : new int[] {-1, 3, Integer.MIN_VALUE, Integer.MAX_VALUE}) {
            say.due("what " + what, d.rests(0, 1, 1, what), -1000);
        }
        say.due("without a camp", new FailBadge().rests(0, 1, 1, 0), -1000);
    }

    private void parts(FailBadge b, int much, int... want) {
        for (int scout = 0; scout < want.length; scout++) {
            say.due(much + " pence of " + scout, b.pence(much, scout), want[scout]);
        }
    }

    private void pence() {
        FailBadge b = Checks.company("camp 0 0;kind 9;kind 9;kind 9;scout;scout;scout;scout");
        FailBadge nobody = Checks.company("camp 0 0;kind 9;scout;scout");
        for (int kind = 0; kind < 3; kind++) {
            for (int scout = 0; scout < 3 - kind; scout++) {
                b.attempt(scout, kind);
            }
        }
        say.terms("PENCE (0 to 9999) among SCOUTS by BADGES: each the part downwards");
        parts(b, 0, 0, 0, 0, 0);
        parts(b, 6, 3, 2, 1, 0);
        parts(b, 9996, 4998, 3332, 1666, 0);
        say.due("9999", b.pence(9999, 1), 3333);
        say.due("-1", b.pence(-1, 0), -1);
        say.due("10000", b.pence(10000, 0), -1);

        say.terms("what is left, one each, to those whose part lost most by that, of several the"
                + " least first");
        parts(b, 1, 1, 0, 0, 0);
        parts(b, 2, 1, 1, 0, 0);
        parts(b, 4, 2, 1, 1, 0);
        parts(b, 5, 2, 2, 1, 0);
        parts(b, 9999, 5000, 3333, 1666, 0);
        FailBadge alike = Checks.company("camp 0 0;kind 9" + ";scout".repeat(6));
        for (int scout = 1; scout < 6; scout++) {
            alike.attempt(scout, 0);
        }
        parts(alike, 4, 0, 1, 1, 1, 1, 0);
        parts(alike, 6, 0, 2, 1, 1, 1, 1);
        parts(alike, 9999, 0, 2000, 2000, 2000, 2000, 1999);

        say.terms("(nothing, if nobody has any)");
        parts(nobody, 9999, 0, 0);
        parts(nobody, 0, 0, 0);

        say.promise(27, "PENCE of a SCOUT");
        parts(b, 7, 4, 2, 1, 0);

        say.promise(27, "NONE without these.");
        for (int much : new int[] {-1, 10000, Integer.MIN_VALUE, Integer.MAX_VALUE}) {
            say.due(much + " pence", b.pence(much, 0), -1);
            say.due(much + " pence, nobody has any", nobody.pence(much, 0), -1);
        }
        for (int no : NO_NUMBERS) {
            say.due("scout " + no, b.pence(1, no), -1);
        }
        say.due("scout 4 of 4", b.pence(1, 4), -1);
        say.due("scout 2 of 2, nobody has any", nobody.pence(1, 2), -1);
        say.due("without a camp", new FailBadge().pence(0, 0), -1);
    }

    private void ringOf(FailBadge b, int day, int later) {
        say.due("day", b.ring(0), day);
        say.due("how much later", b.ring(1), later);
    }

    private void ring() {
        say.terms("RING: the first DAY, this one the first, of 60, at whose begin all BADGES and"
                + " SKILLS are as at the begin of a later one, 60 DAYS from now at most");
        ringOf(Checks.company(ONE, "try 0"), 0, 1);
        ringOf(onDayOne(ONE, "try 0"), 1, 1);
        ringOf(Checks.company("camp 0 0"), 0, 1);
        // Two KINDS of HARD 30 are learnt for 60 days, one each; with one learnt already, for 59.
        String learns = "try 60 - skill if skill < 30";
        String camp = "camp 1 0;kind 30;kind 30;scout";
        ringOf(Checks.company(camp, learns), -2, -2);
        ringOf(Checks.company(camp + ";can 0 0 1", learns), 59, 1);
        ringOf(Checks.company(camp + ";can 0 0 1;can 0 1 1", learns), 58, 1);
        // A badge comes on day 0; once it is lost, all is as at the begin.
        String calms = "camp 0 0;calm 0" + ";calm 9".repeat(6) + ";kind 9;scout";
        ringOf(Checks.company(calms, "try 1 if day = 0 or day = 59"), 0, 60);
        ringOf(Checks.company(calms, "try 1 if day = 0 or day = 60"), 1, 1);
        FailBadge skillTells = Checks.company("camp 1 0;calm 0;calm 9;kind 9;scout",
                "try 1 if day < 2");
        ringOf(skillTells, 2, 1);
        // By days 0 to 8 kind 0 is learnt to 32 and lost: no SKILL 32 is like a SKILL beside it.
        FailBadge learnt = Checks.company("camp 4 0;kind 30;kind 30;scout;can 0 1 1",
                "try 1 if kind = 0 and day < 9");
        ringOf(learnt, 9, 1);
        FailBadge another = Checks.company("camp 0 0;kind 9;scout;scout;scout",
                "try 1 if scout = day");
        ringOf(another, 3, 1);

        say.terms("how much later the first such is.");
        ringOf(Checks.company("camp 0 0;calm 0;calm 9;kind 9;scout", "try 1"), 0, 2);
        ringOf(Checks.company("camp 0 0" + ";calm 0".repeat(11) + ";calm 9;kind 9;scout",
                "try 1 if day % 12 = 0 or day % 12 = 11"), 0, 12);

        say.promise(28, "RING what 0: the DAY, 1: how much later");
        ringOf(onDayOne("camp 0 0;calm 9;calm 0;calm 9;kind 9;scout", "try 1"), 1, 2);

        say.promise(28, "-2: there is none.");
        ringOf(Checks.company(camp, learns), -2, -2);

        say.promise(28, "NONE for others, or without a CAMP.");
        for (int what : NO_WHATS) {
            say.due("what " + what, another.ring(what), -1);
        }
        say.due("without a camp", new FailBadge().ring(0), -1);
        say.due("without a camp", new FailBadge().ring(1), -1);
    }
}
