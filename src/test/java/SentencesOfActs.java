/** Sentences of DAYS and ACTS: the second part of the terms, and promises 7 to 15. */
final class SentencesOfActs {
    private static final int[] NO_NUMBERS = {-1, -2, Integer.MIN_VALUE, 6, 7, Integer.MAX_VALUE};

    private final Sentences say;

    SentencesOfActs(Sentences say) {
        this.say = say;
    }

    void all() {
        calm();
        tries();
        daysByRule();
        worthOfKinds();
        daysWithoutRule();
        nineHundredNinetyNineDays();
        actsOfTerms();
        scout();
        skillAndHard();
        day();
        attempt();
        sham();
        teach();
        cut();
        undo();
    }

    /** CALM is 3 on even DAYS and 0 on odd ones. */
    private static FailBadge two() {
        return Checks.company("camp 2 1;calm 3;calm 0;kind 6;kind 10;kind 2;scout;scout;can 0 0 4"
                + ";can 1 1 8;can 1 2 5");
    }

    // ---- terms

    private void calm() {
        say.terms("CALM of a DAY: as told of the rest of DAY by how many are told");
        FailBadge b = Checks.company("camp 0 9;calm 1;calm 2;calm 3");
        for (int day = 0; day < 8; day++) {
            say.due("calm of day " + day, b.count(8), 1 + day % 3);
            b.day();
        }
        FailBadge one = Checks.company("camp 0 9;calm 4");
        say.due("calm of day 0", one.count(8), 4);
        one.day();
        say.due("calm of day 1", one.count(8), 4);

        say.terms("(LEAST without any)");
        FailBadge none = Checks.company("camp 0 9");
        say.due("calm of day 0", none.count(8), 9);
        none.day();
        say.due("calm of day 1", none.count(8), 9);
    }

    private void tries() {
        say.terms("A SCOUT TRIES a KIND: is their SKILL of it and CALM of this DAY, together,"
                + " HARD or more, it comes off");
        FailBadge b = Checks.company("camp 0 3;kind 8;scout;scout;scout;can 0 0 4;can 1 0 5"
                + ";can 2 0 6");
        say.due("7 of 8", b.attempt(0, 0), 0);
        say.due("8 of 8", b.attempt(1, 0), 1);
        say.due("9 of 8", b.attempt(2, 0), 1);
        say.due("0 of 0", Checks.company("camp 0 0;kind 0;scout").attempt(0, 0), 1);
        String most = "camp 0 9;scout;kind 29;kind 30;can 0 0 20;can 0 1 20";
        say.due("29 of 29", Checks.company(most).attempt(0, 0), 1);
        say.due("29 of 30", Checks.company(most).attempt(0, 1), 0);

        say.terms("PASSED once more; their BADGE of it, if they have one, is lost");
        FailBadge c = Checks.company("camp 1 0;kind 0;kind 9;scout;scout");
        say.due("comes off", c.attempt(0, 0), 1);
        say.due("no badge to lose", c.scout(0, 0), 0);
        say.due("passed", c.scout(0, 1), 1);
        c.sham(0, 0);
        c.sham(1, 0);
        c.attempt(0, 1);
        say.due("two badges", c.scout(0, 0), 0b11);
        say.due("comes off", c.attempt(0, 0), 1);
        say.due("that one is lost", c.scout(0, 0), 0b10);
        say.due("another scout's is not", c.scout(1, 0), 0b01);
        say.due("passed", c.scout(0, 1), 2);
        say.due("nothing is learnt", c.skill(0, 0), 0);
        FailBadge six = Checks.company("camp 0 0" + ";kind 0".repeat(6) + ";scout");
        for (int kind = 0; kind < 6; kind++) {
            six.sham(0, kind);
        }
        for (int kind = 5; kind >= 0; kind--) {
            six.attempt(0, kind);
            say.due("those below " + kind + " are left", six.scout(0, 0), (1 << kind) - 1);
        }

        say.terms("else it does not: they have the BADGE of it, and LEARN more SKILL of it");
        FailBadge d = Checks.company("camp 5 0;kind 30;kind 30;scout;scout;can 0 0 7");
        say.due("does not", d.attempt(0, 0), 0);
        say.due("badge", d.scout(0, 0), 0b01);
        say.due("skill", d.skill(0, 0), 12);
        say.due("skill of another kind", d.skill(0, 1), 0);
        say.due("skill of another scout", d.skill(1, 0), 0);
        say.due("does not", d.attempt(0, 0), 0);
        say.due("the same badge", d.scout(0, 0), 0b01);
        say.due("skill", d.skill(0, 0), 17);
        say.due("passed", d.scout(0, 1), 0);
        FailBadge learnsNothing = Checks.company("camp 0 0;kind 1;scout");
        learnsNothing.attempt(0, 0);
        say.due("learn 0", learnsNothing.skill(0, 0), 0);
        say.due("badge", learnsNothing.scout(0, 0), 1);

        // Nobody can fail with a SKILL of 30, so that 34 is the most that can be learnt.
        say.terms("50 at most.");
        FailBadge e = Checks.company("camp 5 0;kind 30;scout;can 0 0 19");
        int[] skills = {24, 29, 34, 34, 34};
        for (int skill : skills) {
            e.attempt(0, 0);
            say.due("skill", e.skill(0, 0), skill);
        }

        say.terms("TRIED is 1 more.");
        FailBadge f = Checks.company("camp 0 0;kind 0;kind 9;scout;scout");
        f.attempt(0, 0);
        say.due("what comes off", f.scout(0, 2), 1);
        f.attempt(0, 1);
        say.due("what does not", f.scout(0, 2), 2);
        f.attempt(0, 1);
        say.due("what does not, again", f.scout(0, 2), 3);
        say.due("another scout", f.scout(1, 2), 0);
    }

    private static final String THREE = "camp 0 0;kind 20;kind 20;kind 20;scout;scout;scout";

    private void daysByRule() {
        say.terms("A DAY: SCOUTS by numbers TRY, each by how all is then");
        FailBadge b = Checks.company(THREE, "try 1 if others = 0");
        b.day();
        for (int scout = 0; scout < 3; scout++) {
            say.due("scout " + scout, b.scout(scout, 0), 1 << scout);
        }
        FailBadge lost = Checks.company("camp 0 0;kind 0;kind 9;scout;scout",
                "try 1 if kind = 0 and scout = 0;try 1 if others = 0 and scout = 1");
        lost.sham(0, 0);
        say.due("scout 0 loses theirs ahead of scout 1", lost.day(), 0b11);
        FailBadge skilled = Checks.company("camp 5 0;kind 5;scout;scout", "try 1");
        say.due("nobody", skilled.day(), 0);
        say.due("both", skilled.day(), 0b11);

        say.terms("the KIND for which the SUM of the RULE IN FORCE's first CLAUSE without a TEST,"
                + " or whose TEST holds");
        dayLeadsTo("try 2 if kind = 1;try 1;try 9 if kind = 2", 0b010);
        dayLeadsTo("try 0 if kind = 2;try 9 if kind = 2;try 1 if kind = 1", 0b010);
        dayLeadsTo("try 1 if 1 = 2;".repeat(11) + "try 1 if kind = 2", 0b100);
        dayLeadsTo("try kind", 0b100);

        say.terms("(0 without)");
        dayLeadsTo("try 5 if kind = 7", 0);
        dayLeadsTo("try 5 if kind = 7;try 6 if 1 = 2", 0);
        dayLeadsTo("try 0 - 1 if kind = 0;try 0 - 1 if kind = 2", 0);
        dayLeadsTo("try 1 if kind = 1", 0b010);
    }

    private void worthOfKinds() {
        say.terms("is greatest, if it is above 0");
        dayLeadsTo("try 0", 0);
        dayLeadsTo("try 1", 0b001);
        dayLeadsTo("try 0 - 1", 0);
        dayLeadsTo("try kind - 2", 0);
        dayLeadsTo("try kind - 1", 0b100);
        dayLeadsTo("try 0 - kind + 1", 0b001);
        dayLeadsTo("try 65536 * 65536 if kind = 1;try 1", 0b010);
        dayLeadsTo("try 65536 * 65536 * 65536 * 32768", 0);
        dayLeadsTo("try 65536 * 65536 * 65536 * 32768 - 1 if kind = 1;try 9", 0b010);

        say.terms("of several the least");
        dayLeadsTo("try 7", 0b001);
        dayLeadsTo("try 7 if kind > 0", 0b010);
        dayLeadsTo("try 7 if kind > 0;try 6", 0b010);

        say.terms("(nothing, if none is)");
        FailBadge b = Checks.company(THREE, "try 0");
        say.due("day", b.day(), 0);
        say.due("the day is gone", b.count(7), 1);
        say.due("it is an act", b.count(12), 1);
        for (int scout = 0; scout < 3; scout++) {
            say.due("tried", b.scout(scout, 2), 0);
        }
        FailBadge noKinds = Checks.company("camp 0 0;scout", "try 1");
        say.due("no kinds", noKinds.day(), 0);
        say.due("tried", noKinds.scout(0, 2), 0);
    }

    private void dayLeadsTo(String rule, int badges) {
        FailBadge b = Checks.company(THREE, rule);
        b.day();
        say.due(rule, b.scout(0, 0), badges);
        say.due("tried by " + rule, b.scout(0, 2), badges == 0 ? 0 : 1);
    }

    private void daysWithoutRule() {
        say.terms("without a RULE the hardest of those of which they have no BADGE,"
                + " of several the least.");
        FailBadge b = Checks.company("camp 0 0;kind 3;kind 9;kind 9;scout");
        int[] badges = {0b010, 0b110, 0b111, 0b111};
        for (int day = 0; day < badges.length; day++) {
            say.due("day", b.day(), 0);
            say.due("badges", b.scout(0, 0), badges[day]);
            say.due("nothing with the whole arm", b.scout(0, 2), Math.min(3, day + 1));
        }
        FailBadge c = Checks.company("camp 0 0;kind 0;kind 9;scout");
        c.day();
        say.due("hard 0 is tried, too", c.day(), 1);
        say.due("again, for it gave no badge", c.day(), 1);
        FailBadge none = Checks.company("camp 0 0;scout");
        say.due("no kinds", none.day(), 0);
        say.due("tried", none.scout(0, 2), 0);
    }

    private void nineHundredNinetyNineDays() {
        say.terms("DAY is 1 more (999 at most by hand; DAYS that are asked go on beyond).");
        FailBadge b = Checks.company("camp 1 0;kind 0;scout", "try 1 if day > 998");
        for (int day = 0; day < 999; day++) {
            b.day();
        }
        say.due("day", b.count(7), 999);
        say.due("by hand", b.day(), -1);
        say.due("day", b.count(7), 999);
        say.due("ahead", b.ahead(0, 100, 2), 100);
        say.due("off", b.off(0), 999);
        say.due("ring", b.ring(0), 999);
        say.due("camps", b.camps(1, 60, 0, 0), 60);
        say.due("attempt", b.attempt(0, 0), 1);
        say.due("undo", b.undo(), 19);
        say.due("undo", b.undo(), 18);
        say.due("day", b.count(7), 998);
        say.due("by hand", b.day(), 0);
        say.due("by hand", b.day(), -1);
    }

    private void actsOfTerms() {
        say.terms("ACTS: a DAY; TRY (a SCOUT a KIND)");
        FailBadge b = two();
        b.day();
        say.due("a day", b.count(12), 1);
        b.attempt(0, 0);
        say.due("try", b.count(12), 2);

        say.terms("SHAM (a SCOUT for whom a KIND would come off now, and who has no BADGE of it,"
                + " has one; nothing is TRIED)");
        FailBadge c = Checks.company("camp 1 0;calm 3;calm 2;kind 8;scout;scout;can 0 0 4"
                + ";can 1 0 5");
        say.due("7 of 8", c.sham(0, 0), -1);
        say.due("8 of 8", c.sham(1, 0), 1);
        say.due("has one", c.sham(1, 0), -1);
        say.due("tried", c.scout(1, 2), 0);
        say.due("passed", c.scout(1, 1), 0);
        say.due("skill", c.skill(1, 0), 5);
        c.cut(1, 0);
        Checks.rule(c, "try 0");
        c.force(0);
        c.day();
        say.due("7 of 8 on day 1", c.sham(1, 0), -1);

        say.terms("TEACH (a SCOUT who has more SKILL of a KIND than another one:"
                + " that one has 1 more)");
        FailBadge d = Checks.company("camp 0 0;kind 1;kind 1;scout;scout;can 0 0 2;can 1 1 9");
        say.due("2 and 0", d.teach(0, 1, 0), 1);
        say.due("2 and 1", d.teach(0, 1, 0), 2);
        say.due("2 and 2", d.teach(0, 1, 0), -1);
        say.due("0 and 9", d.teach(0, 1, 1), -1);
        say.due("themselves", d.teach(0, 0, 0), -1);
        say.due("the teacher's stays", d.skill(0, 0), 2);
        say.due("of another kind stays", d.skill(1, 1), 9);

        say.terms("CUT (a BADGE of a SCOUT is cut off)");
        FailBadge e = Checks.company("camp 1 0;kind 9;kind 9;scout;scout");
        e.attempt(0, 0);
        e.attempt(0, 1);
        e.attempt(1, 1);
        say.due("cut", e.cut(0, 1), 0b01);
        say.due("another scout's stays", e.scout(1, 0), 0b10);
        say.due("cut again", e.cut(0, 1), -1);
        say.due("skill stays", e.skill(0, 1), 1);

        say.terms("The last 20 can be UNDONE, the last first.");
        FailBadge f = Checks.company("camp 1 0;kind 30;scout");
        for (int act = 1; act <= 25; act++) {
            f.attempt(0, 0);
            say.due("acts", f.count(12), Math.min(20, act));
        }
        for (int left = 19; left >= 0; left--) {
            say.due("undo", f.undo(), left);
            say.due("skill", f.skill(0, 0), 5 + left);
        }
        say.due("no more", f.undo(), -1);
        say.due("five stay", f.scout(0, 2), 5);
    }

    // ---- promises 7 to 15

    private void scout() {
        say.promise(7, "Of a SCOUT what 0: BADGES, as bits, 1: how often PASSED, 2: how often TRIED,"
                + " 3: what they CAN now, as bits, 4: SHAMMED, as bits.");
        FailBadge b = two();
        b.attempt(0, 0);
        b.attempt(0, 1);
        b.sham(0, 2);
        int[] want = {0b110, 1, 2, 0b101, 0b100};
        for (int what = 0; what < want.length; what++) {
            say.due("what " + what, b.scout(0, what), want[what]);
        }
        FailBadge six = Checks.company("camp 0 0" + ";kind 30".repeat(5) + ";kind 0"
                + ";scout".repeat(6));
        for (int kind = 0; kind < 5; kind++) {
            six.attempt(5, kind);
        }
        six.sham(5, 5);
        say.due("all badges", six.scout(5, 0), 0b111111);
        say.due("can", six.scout(5, 3), 0b100000);
        say.due("shammed", six.scout(5, 4), 0b100000);

        say.promise(7, "NONE without these.");
        for (int what : new int[] {-1, 5, Integer.MIN_VALUE, Integer.MAX_VALUE}) {
            say.due("what " + what, b.scout(0, what), -1);
        }
        for (int what = -1; what <= 5; what++) {
            say.due("scout -1", b.scout(-1, what), -1);
            say.due("scout 2 of 2", b.scout(2, what), -1);
            say.due("scout 6 of 6", six.scout(6, what), -1);
            say.due("far off", b.scout(Integer.MAX_VALUE, what), -1);
            say.due("far off", b.scout(Integer.MIN_VALUE, what), -1);
            say.due("without a camp", new FailBadge().scout(0, what), -1);
        }
    }

    private void skillAndHard() {
        say.promise(8, "SKILL of a SCOUT of a KIND");
        FailBadge b = two();
        say.due("told", b.skill(0, 0), 4);
        say.due("told", b.skill(1, 2), 5);
        say.due("not told", b.skill(0, 2), 0);
        b.attempt(0, 1);
        say.due("learnt", b.skill(0, 1), 2);

        say.promise(8, "NONE without these");
        for (int no : NO_NUMBERS) {
            say.due("scout " + no, b.skill(no, 0), -1);
            say.due("kind " + no, b.skill(0, no), -1);
        }
        say.due("scout 2 of 2", b.skill(2, 0), -1);
        say.due("kind 3 of 3", b.skill(0, 3), -1);
        say.due("kind -1 of scout 1", b.skill(1, -1), -1);
        say.due("without a camp", new FailBadge().skill(0, 0), -1);
        say.due("without kinds", Checks.company("camp 0 0;scout").skill(0, 0), -1);
        say.due("without scouts", Checks.company("camp 0 0;kind 0").skill(0, 0), -1);

        say.promise(9, "HARD of a KIND");
        say.due("kind 0", b.hard(0), 6);
        say.due("kind 2", b.hard(2), 2);
        say.due("hard 0", Checks.company("camp 0 0;kind 0").hard(0), 0);

        say.promise(9, "NONE without it");
        for (int no : NO_NUMBERS) {
            say.due("kind " + no, b.hard(no), -1);
        }
        say.due("kind 3 of 3", b.hard(3), -1);
        say.due("without a camp", new FailBadge().hard(0), -1);
    }

    private void day() {
        say.promise(10, "A DAY: for whom something comes off on it, as bits");
        FailBadge all = Checks.company("camp 0 0;kind 0" + ";scout".repeat(6));
        say.due("for all", all.day(), 0b111111);
        FailBadge b = Checks.company("camp 0 0;kind 5;scout;scout;scout;can 0 0 5;can 2 0 5");
        say.due("for two", b.day(), 0b101);
        say.due("for nobody", Checks.company("camp 0 0;kind 5;scout").day(), 0);
        say.due("nobody there", Checks.company("camp 0 0").day(), 0);
        say.due("day", b.count(7), 1);

        say.promise(10, "NONE, and nothing happens, without a CAMP, or on DAY 999");
        FailBadge none = new FailBadge();
        Checks.rule(none, "try 1");
        none.force(0);
        String before = Checks.everything(none);
        say.refused(none, before, "without a camp", none.day(), -1);
        FailBadge last = Checks.company("camp 0 0;kind 0;scout");
        for (int day = 0; day < 999; day++) {
            last.day();
        }
        String onTheLast = Checks.everything(last);
        say.refused(last, onTheLast, "on day 999", last.day(), -1);
        say.due("passed", last.scout(0, 1), 999);
    }

    private void attempt() {
        say.promise(11, "TRY: 1 if it comes off, else 0");
        FailBadge b = two();
        say.due("comes off", b.attempt(0, 0), 1);
        say.due("does not", b.attempt(0, 1), 0);
        say.due("the day stays", b.count(7), 0);
        FailBadge six = Checks.company("camp 0 0" + ";kind 1".repeat(5) + ";kind 0"
                + ";scout".repeat(6));
        say.due("the last of both", six.attempt(5, 5), 1);
        say.due("passed", six.scout(5, 1), 1);

        say.promise(11, "NONE, and nothing happens, without these");
        String before = Checks.everything(b);
        for (int no : NO_NUMBERS) {
            say.refused(b, before, "scout " + no, b.attempt(no, 0), -1);
            say.refused(b, before, "kind " + no, b.attempt(0, no), -1);
        }
        say.refused(b, before, "scout 2 of 2", b.attempt(2, 0), -1);
        say.refused(b, before, "kind 3 of 3", b.attempt(0, 3), -1);
        say.due("without a camp", new FailBadge().attempt(0, 0), -1);
        say.due("without kinds", Checks.company("camp 0 0;scout").attempt(0, 0), -1);
    }

    private void sham() {
        say.promise(12, "SHAM: BADGES then, as bits");
        FailBadge b = two();
        b.attempt(0, 1);
        say.due("a second badge", b.sham(0, 0), 0b011);
        say.due("a third", b.sham(0, 2), 0b111);
        say.due("acts", b.count(12), 3);

        say.promise(12, "NONE, and nothing happens, without these");
        String before = Checks.everything(b);
        say.refused(b, before, "has it, and it would come off", b.sham(0, 0), -1);
        say.refused(b, before, "has it, and it would not", b.sham(0, 1), -1);
        say.refused(b, before, "would not come off", b.sham(1, 0), -1);
        for (int no : NO_NUMBERS) {
            say.refused(b, before, "scout " + no, b.sham(no, 0), -1);
            say.refused(b, before, "kind " + no, b.sham(1, no), -1);
        }
        say.refused(b, before, "scout 2 of 2", b.sham(2, 0), -1);
        say.refused(b, before, "kind 3 of 3", b.sham(1, 3), -1);
        say.due("without a camp", new FailBadge().sham(0, 0), -1);
    }

    private void teach() {
        say.promise(13, "TEACH: SKILL of the other one then");
        FailBadge b = two();
        say.due("from 0 to 1", b.teach(0, 1, 0), 1);
        say.due("from 0 to 1", b.teach(1, 0, 2), 1);
        say.due("skill", b.skill(0, 2), 1);
        say.due("acts", b.count(12), 2);
        say.due("badges", b.count(9), 0);
        say.due("nothing is tried", b.scout(0, 2) + b.scout(1, 2), 0);

        say.promise(13, "NONE, and nothing happens, without these");
        for (int i = 0; i < 3; i++) {
            b.teach(0, 1, 0);
        }
        String before = Checks.everything(b);
        say.refused(b, before, "as much", b.teach(0, 1, 0), -1);
        say.refused(b, before, "as much", b.teach(1, 0, 0), -1);
        say.refused(b, before, "less", b.teach(0, 1, 1), -1);
        say.refused(b, before, "themselves", b.teach(1, 1, 1), -1);
        for (int no : NO_NUMBERS) {
            say.refused(b, before, "scout " + no, b.teach(no, 0, 1), -1);
            say.refused(b, before, "other " + no, b.teach(1, no, 1), -1);
            say.refused(b, before, "kind " + no, b.teach(1, 0, no), -1);
        }
        say.refused(b, before, "scout 2 of 2", b.teach(2, 0, 1), -1);
        say.refused(b, before, "other 2 of 2", b.teach(1, 2, 1), -1);
        say.refused(b, before, "kind 3 of 3", b.teach(1, 0, 3), -1);
        say.due("without a camp", new FailBadge().teach(0, 1, 0), -1);
    }

    private void cut() {
        say.promise(14, "CUT: BADGES then, as bits");
        FailBadge b = two();
        b.attempt(0, 1);
        b.sham(0, 0);
        b.sham(0, 2);
        say.due("one of three", b.cut(0, 1), 0b101);
        say.due("one of two", b.cut(0, 0), 0b100);
        say.due("the last", b.cut(0, 2), 0);
        say.due("acts", b.count(12), 6);

        say.promise(14, "NONE, and nothing happens, without these");
        b.attempt(1, 0);
        String before = Checks.everything(b);
        say.refused(b, before, "no badge", b.cut(0, 0), -1);
        say.refused(b, before, "no badge of that kind", b.cut(1, 1), -1);
        for (int no : NO_NUMBERS) {
            say.refused(b, before, "scout " + no, b.cut(no, 0), -1);
            say.refused(b, before, "kind " + no, b.cut(1, no), -1);
        }
        // A bit 32 places on is the same to a shift.
        say.refused(b, before, "kind 32", b.cut(1, 32), -1);
        say.refused(b, before, "scout 2 of 2", b.cut(2, 0), -1);
        say.refused(b, before, "kind 3 of 3", b.cut(1, 3), -1);
        say.due("without a camp", new FailBadge().cut(0, 0), -1);
    }

    private void undo() {
        say.promise(15, "The last ACT is UNDONE: how many more can be");
        FailBadge b = two();
        String[] before = new String[5];
        before[0] = Checks.everything(b);
        b.attempt(0, 1);
        before[1] = Checks.everything(b);
        b.sham(0, 0);
        before[2] = Checks.everything(b);
        b.teach(0, 1, 0);
        before[3] = Checks.everything(b);
        b.cut(0, 1);
        before[4] = Checks.everything(b);
        b.day();
        for (int act = 4; act >= 0; act--) {
            say.due("undo", b.undo(), act);
            say.due("as it was", Checks.everything(b).equals(before[act]) ? 1 : 0, 1);
        }
        // What is no act stays: a rule, which is in force, x, notes.
        b.day();
        Checks.rule(b, "try 1");
        b.force(0);
        b.seed(5);
        b.note(0, 0, 0, 0);
        b.cut(0, 0);
        say.due("the cut was refused: the day is undone", b.undo(), 0);
        say.due("day", b.count(7), 0);
        say.due("rules", b.count(5), 1);
        say.due("in force", b.count(6), 0);
        say.due("x", b.count(13), 5);
        say.due("notes", b.count(11), 1);

        say.promise(15, "NONE, and nothing happens: none can");
        String atLast = Checks.everything(b);
        say.refused(b, atLast, "undo", b.undo(), -1);
        say.refused(b, atLast, "undo", b.undo(), -1);
        say.due("without a camp", new FailBadge().undo(), -1);
        for (int act = 0; act < 21; act++) {
            b.day();
        }
        for (int left = 19; left >= 0; left--) {
            say.due("undo", b.undo(), left);
        }
        String behindTheFirst = Checks.everything(b);
        say.refused(b, behindTheFirst, "undo", b.undo(), -1);
        say.due("the first day stays", b.count(7), 1);
    }
}
