/** Sentences of NOTES, DRAWS and IMAGES: the end of the terms, and promises 29 to 36. */
final class SentencesOfNotes {
    private static final int[] NO_NUMBERS = {-1, -2, Integer.MIN_VALUE, 6, 7, Integer.MAX_VALUE};
    private static final int[] NO_WHATS = {-1, -2, Integer.MIN_VALUE, 2, 3, Integer.MAX_VALUE};
    private static final String ONE = "camp 0 0;kind 9;scout";

    private final Sentences say;

    SentencesOfNotes(Sentences say) {
        this.say = say;
    }

    void all() {
        notes();
        ruled();
        look();
        draws();
        camps();
        imagesOfTerms();
        note();
        seed();
        count();
        image();
        back();
    }

    private void notes() {
        say.terms("NOTES 0 to 9, told: behind the n-th DAY of all (0 to 60) a SCOUT had a BADGE of a"
                + " KIND (1), or had not (0).");
        FailBadge b = Checks.company(ONE);
        say.due("day 0", b.note(0, 0, 0, 1), 1);
        say.due("day 60", b.note(60, 0, 0, 1), 2);
        say.due("both are so", b.ruled(0), 1);
        say.due("day 61", b.note(61, 0, 0, 1), -2);
        say.due("day -2", b.note(-2, 0, 0, 1), -2);
        say.due("had or had not", b.note(0, 0, 0, 2), -2);
        for (int more = 3; more <= 10; more++) {
            say.due("note", b.note(1, 0, 0, 1), more);
        }
        say.due("an eleventh", b.note(1, 0, 0, 1), -2);
        say.due("all ten are so", b.ruled(0), 1);
        b.note(-1, 0, 0, 0);
        for (int more = 1; more <= 10; more++) {
            b.note(1, 0, 0, more < 10 ? 1 : 0);
        }
        say.due("the tenth is not", b.ruled(0), 0);
        // Behind DAY n is when it has gone.
        FailBadge c = Checks.company(ONE, "try 1 if day = 60");
        c.note(59, 0, 0, 0);
        say.due("rule 0 had not behind day 59", c.ruled(1), 0);
        c.note(60, 0, 0, 1);
        say.due("rule 0 had behind day 60", c.ruled(1), 0);
        c.note(60, 0, 0, 0);
        say.due("both can't be", c.ruled(0), 0);
    }

    private void ruledIs(FailBadge b, int many, int first) {
        say.due("how many", b.ruled(0), many);
        say.due("the first", b.ruled(1), first);
    }

    private void ruled() {
        say.terms("RULED: which of the RULES, and of none, so that from the begin on, all as the text"
                + " told it, all NOTES are so: how many");
        FailBadge b = Checks.company("camp 1 0;kind 10;kind 20;scout;scout;can 1 0 10");
        ruledIs(b, 1, -1);
        for (int rule = 0; rule < 6; rule++) {
            Checks.rule(b, "try 1 if kind = " + rule % 2);
            ruledIs(b, rule + 2, -1);
        }
        b.force(0);
        b.day();
        b.attempt(0, 1);
        b.teach(1, 0, 0);
        b.note(0, 0, 0, 1);
        ruledIs(b, 3, 0);
        b.note(0, 1, 0, 0);
        ruledIs(b, 3, 0);
        // By rule 0 scout 0 learns kind 0 on days 0 to 9; it comes off on day 10.
        b.note(9, 0, 0, 1);
        b.note(10, 0, 0, 0);
        ruledIs(b, 3, 0);
        b.note(-1, 0, 0, 0);
        b.note(0, 1, 1, 1);
        ruledIs(b, 4, -1);
        b.note(0, 0, 0, 0);
        ruledIs(b, 4, -1);
        b.note(20, 0, 1, 0);
        ruledIs(b, 3, 1);

        say.terms("the first (none ahead of 0, told as NONE).");
        FailBadge c = Checks.company(ONE);
        Checks.rule(c, "try 0");
        Checks.rule(c, "try 1");
        ruledIs(c, 3, -1);
        c.note(0, 0, 0, 1);
        ruledIs(c, 2, -1);
        c.note(-1, 0, 0, 0);
        c.note(0, 0, 0, 0);
        ruledIs(c, 1, 0);
        c.note(0, 0, 0, 1);
        ruledIs(c, 0, -2);

        say.promise(30, "RULED what 0: how many, 1: the first (NONE: none");
        ruledIs(Checks.company("camp 0 0"), 1, -1);

        say.promise(30, "-2: there is none such");
        say.due("how many", c.ruled(0), 0);
        say.due("the first", c.ruled(1), -2);

        say.promise(30, "-3 for others, or without a CAMP.");
        for (int what : NO_WHATS) {
            say.due("what " + what, c.ruled(what), -3);
        }
        FailBadge none = new FailBadge();
        Checks.rule(none, "try 1");
        say.due("without a camp", none.ruled(0), -3);
        say.due("without a camp", none.ruled(1), -3);
    }

    private void look() {
        say.terms("LOOK behind the n-th DAY: the SCOUT by whose BADGES these part best: the most"
                + " alike are fewest, of several the least; how many.");
        FailBadge b = Checks.company("camp 0 0;kind 9;kind 9;kind 9;scout;scout;scout");
        lookIs(b, 0, 0, 1);
        Checks.rule(b, "try 1 if kind = 1");
        Checks.rule(b, "try 1 if kind = scout");
        // Behind day 0, by none and both rules: scout 0 has {0} {1} {0}, scout 1 {0} {1} {1},
        // scout 2 {0} {1} {2}.
        lookIs(b, 0, 2, 1);
        Checks.rule(b, "try 1 if kind = scout");
        lookIs(b, 0, 2, 2);
        Checks.rule(b, "try 1 if kind = 1 and scout > 1;try 1 if kind = 2 and scout < 2");
        // By that one scout 0 has {2}, scout 1 {2}, scout 2 {1}: of scouts 0 and 1 three are alike.
        lookIs(b, 0, 2, 2);
        b.note(0, 0, 0, 1);
        // None and rules 1, 2 are left: scout 1 has {0} {1} {1}, scout 2 {0} {2} {2}.
        lookIs(b, 0, 1, 2);
        FailBadge late = Checks.company(ONE);
        Checks.rule(late, "try 1 if day = 60");
        lookIs(late, 0, 0, 1);
        lookIs(late, 59, 0, 1);
        lookIs(late, 60, 0, 2);
        FailBadge seven = Checks.company("camp 0 0;kind 9;kind 9;scout;scout");
        for (int rule = 0; rule < 6; rule++) {
            lookIs(seven, 0, 0, rule + 1);
            Checks.rule(seven, "try 1 if kind = 0");
        }
        lookIs(seven, 0, 0, 7);
        lookIs(seven, 1, 0, 6);

        say.promise(31, "LOOK (n 0 to 60) what 0: the SCOUT, 1: how many");
        lookIs(late, 1, 0, 1);
        say.due("n -1", late.look(-1, 0), -1);
        say.due("n 61", late.look(61, 0), -1);

        say.promise(31, "-2: no RULE is so, or there are no SCOUTS.");
        late.note(0, 0, 0, 0);
        late.note(0, 0, 0, 1);
        lookIs(late, 0, -2, -2);
        lookIs(Checks.company("camp 0 0;kind 9"), 0, -2, -2);
        lookIs(Checks.company("camp 0 0;scout"), 60, 0, 1);

        say.promise(31, "NONE without these, or a CAMP.");
        for (int n : new int[] {-1, 61, Integer.MIN_VALUE, Integer.MAX_VALUE}) {
            lookIs(late, n, -1, -1);
            lookIs(b, n, -1, -1);
        }
        for (int what : NO_WHATS) {
            say.due("what " + what, late.look(0, what), -1);
            say.due("what " + what, b.look(0, what), -1);
        }
        lookIs(new FailBadge(), 0, -1, -1);
    }

    private void lookIs(FailBadge b, int n, int scout, int many) {
        say.due("the scout behind day " + n, b.look(n, 0), scout);
        say.due("how many behind day " + n, b.look(n, 1), many);
    }

    /** One SCOUT who always TRIES one KIND, and learns nothing: CALM tells whether it comes off. */
    private static FailBadge feels(int hard) {
        return Checks.company("camp 0 0;kind " + hard + ";scout", "try 1");
    }

    private void drawn(FailBadge b, int m, int n, int p, int off) {
        say.due("camps " + m + " " + n + " " + p, b.camps(m, n, p, 0), off);
    }

    private void draws() {
        // From x = 0 the DRAWS are 0, 21468, 9988, 22117, 3498, 16927.
        say.terms("DRAWS: x (0 to 2147483647; 0 at first) becomes x * 1103515245 + 12345,"
                + " of 2147483648 the rest; a DRAW is x / 65536.");
        say.due("x at first", feels(1).count(13), 0);
        drawn(feels(8), 1, 1, 100, 1);
        drawn(feels(9), 1, 1, 100, 0);
        // From 2147483647 they are 15929, 4409, 9862, 26718.
        FailBadge most = feels(9);
        most.seed(2147483647);
        drawn(most, 1, 1, 29, 0);
        drawn(most, 1, 1, 30, 1);
        drawn(most, 1, 2, 100, 1);
        FailBadge eight = feels(8);
        eight.seed(2147483647);
        drawn(eight, 1, 2, 100, 2);
        drawn(eight, 1, 2, 62, 1);
        drawn(eight, 1, 2, 63, 2);
        say.due("below 0", eight.seed(-1), -1);
    }

    private void camps() {
        say.terms("CAMPS m times (1 to 10) n DAYS (1 to 60) from now on");
        FailBadge easy = feels(0);
        drawn(easy, 1, 1, 0, 1);
        drawn(easy, 10, 60, 0, 600);
        drawn(easy, 0, 1, 0, -1);
        drawn(easy, 11, 1, 0, -1);
        drawn(easy, 1, 0, 0, -1);
        drawn(easy, 1, 61, 0, -1);
        FailBadge late = Checks.company("camp 0 0;kind 0;scout", "try 1 if day = 2");
        drawn(late, 10, 2, 0, 0);
        drawn(late, 10, 3, 0, 10);
        late.day();
        drawn(late, 10, 2, 0, 10);
        // Each time begins from now, with what is learnt gone.
        drawn(Checks.company("camp 5 0;kind 10;scout", "try 1"), 10, 3, 0, 10);

        say.terms("ahead of each a DRAW mod 100: is it below p (0 to 100), a DRAW mod 10 is CALM of"
                + " this DAY");
        drawn(feels(1), 1, 1, 0, 0);
        drawn(feels(8), 1, 1, 1, 1);
        drawn(feels(9), 1, 1, 1, 0);
        // The second day's DRAW mod 100 is 88, and CALM is 7 then.
        drawn(feels(7), 1, 2, 88, 1);
        drawn(feels(7), 1, 2, 89, 2);
        drawn(feels(8), 1, 2, 100, 1);
        // With p 0 there is one DRAW a day, and none of them is below it.
        drawn(feels(1), 10, 60, 0, 0);
        drawn(feels(1), 1, 1, -1, -1);
        drawn(feels(1), 1, 1, 101, -1);
        // A day on which none is drawn is as told, and the next day's CALM is as told.
        drawn(Checks.company("camp 0 0;calm 0;calm 7;kind 7;scout", "try 1"), 1, 2, 1, 2);
        drawn(Checks.company("camp 0 0;kind 0;scout", "try 1 if calm = 8"), 1, 1, 1, 1);
        drawn(Checks.company("camp 0 0;kind 0;scout", "try 1 if next > 0"), 10, 60, 100, 0);

        say.terms("how often anything comes off in these; how many BADGES all have then, all together"
                + " (nothing stays; x as it was).");
        FailBadge both = Checks.company("camp 0 0;kind 8;scout;scout;can 1 0 1", "try 1");
        // CALM is 8 the first time, and 7 the second time.
        say.due("how often", both.camps(2, 1, 100, 0), 3);
        say.due("badges", both.camps(2, 1, 100, 1), 1);
        both.seed(9);
        String before = Checks.everything(both);
        both.camps(10, 60, 50, 0);
        say.due("nothing stays", Checks.everything(both).equals(before) ? 1 : 0, 1);
        say.due("x", both.count(13), 9);
        FailBadge calmAsTold = feels(8);
        calmAsTold.camps(1, 1, 100, 0);
        say.due("no drawn calm stays", calmAsTold.ahead(0, 1, 2), 0);

        say.promise(33, "CAMPS what 0: how often, 1: how many.");
        FailBadge fails = feels(30);
        fails.attempt(0, 0);
        say.due("how often", fails.camps(10, 60, 100, 0), 0);
        say.due("how many", fails.camps(10, 60, 100, 1), 10);
        fails.force(-1);
        say.due("a badge from before", fails.camps(3, 1, 0, 1), 3);
        say.due("nobody there", Checks.company("camp 0 0;kind 0").camps(10, 60, 100, 0), 0);

        say.promise(33, "NONE without these, or a CAMP.");
        for (int no : new int[] {Integer.MIN_VALUE, -1, 101, Integer.MAX_VALUE}) {
            say.due("m " + no, easy.camps(no, 1, 0, 0), -1);
            say.due("n " + no, easy.camps(1, no, 0, 0), -1);
            say.due("p " + no, easy.camps(1, 1, no, 0), -1);
            say.due("what " + no, easy.camps(1, 1, 0, no), -1);
        }
        say.due("m 0", easy.camps(0, 1, 0, 1), -1);
        say.due("m 11", easy.camps(11, 1, 0, 1), -1);
        say.due("n 0", easy.camps(1, 0, 0, 1), -1);
        say.due("n 61", easy.camps(1, 61, 0, 1), -1);
        say.due("what 2", easy.camps(1, 1, 0, 2), -1);
        say.due("without a camp", new FailBadge().camps(1, 1, 0, 0), -1);
    }

    private void imagesOfTerms() {
        say.terms("IMAGES 0 to 3");
        FailBadge four = Checks.company(ONE);
        for (int k = 0; k < 4; k++) {
            say.due("image " + k, four.image(k), k);
            four.day();
        }
        say.due("image 4", four.image(4), -1);
        say.due("image -1", four.image(-1), -1);
        for (int k = 3; k >= 0; k--) {
            say.due("back " + k, four.back(k), k);
        }

        say.terms("all but the TAPE and the RULES, as it is (the RULE IN FORCE, too)");
        FailBadge b = Sentences.busyCompany();
        b.image(0);
        b.undo();
        b.undo();
        b.force(-1);
        b.seed(3);
        b.note(-1, 0, 0, 0);
        Checks.camp(b, "camp 5 5;kind 1;scout");
        Checks.rule(b, "try kind");
        b.feed(1, 2, 3, 4, 5);
        b.back(0);
        int[] want = {1, 2, 2, 2, 2, 2, 0, 1, 4, 2, 1, 1, 0, 77, 20};
        for (int what = 0; what < want.length; what++) {
            say.due("count " + what, b.count(what), want[what]);
        }
        say.due("badges", b.scout(0, 0), 0b01);
        say.due("passed", b.scout(1, 1), 1);
        say.due("tried", b.scout(1, 2), 2);
        say.due("skill", b.skill(0, 0), 1);
        say.due("hard", b.hard(1), 2);
        say.due("the note, too", b.ruled(0), 2);
        FailBadge noted = Checks.company("camp 0 0;kind 8;kind 9;scout;scout");
        Checks.rule(noted, "try 1 if kind = scout and day = 3");
        noted.note(2, 1, 1, 0);
        noted.note(3, 1, 1, 1);
        noted.image(0);
        noted.note(-1, 0, 0, 0);
        noted.note(0, 0, 0, 1);
        noted.note(0, 0, 0, 1);
        noted.note(0, 0, 0, 1);
        say.due("the others are not so", noted.ruled(0), 0);
        noted.back(0);
        say.due("two notes", noted.count(11), 2);
        say.due("rule 0", noted.ruled(0), 1);
        say.due("rule 0", noted.ruled(1), 0);

        say.terms("gone back to, it is as it was (these stay; nothing can be UNDONE then).");
        FailBadge c = Sentences.busyCompany();
        c.image(1);
        c.day();
        c.day();
        c.back(1);
        String first = Checks.everything(c);
        say.due("undo", c.undo(), -1);
        c.day();
        c.sham(0, 1);
        c.attempt(0, 0);
        c.seed(1);
        say.due("back once more", c.back(1), 1);
        say.due("as it was", Checks.everything(c).equals(first) ? 1 : 0, 1);
        say.due("undo", c.undo(), -1);
        c.day();
        say.due("what is done then can be undone", c.undo(), 0);
        say.due("as it was", Checks.everything(c).equals(first) ? 1 : 0, 1);
    }

    private void note() {
        say.promise(29, "A NOTE");
        FailBadge b = Checks.company("camp 0 0" + ";kind 9".repeat(6) + ";scout".repeat(6));
        say.due("the last of all", b.note(60, 5, 5, 1), 1);
        say.due("the first of all", b.note(0, 0, 0, 0), 2);
        say.due("is no act", b.count(12), 0);

        say.promise(29, "(n NONE: there are none then, 0)");
        say.due("none", b.note(-1, 0, 0, 0), 0);
        say.due("notes", b.count(11), 0);
        b.note(0, 0, 0, 0);
        say.due("whatever else is said", b.note(-1, -9, 99, 7), 0);
        say.due("none of none", b.note(-1, 0, 0, 0), 0);
        say.due("without a camp", new FailBadge().note(-1, 0, 0, 0), 0);

        say.promise(29, "how many");
        for (int many = 1; many <= 10; many++) {
            say.due("note", b.note(many, 0, 0, 1), many);
            say.due("notes", b.count(11), many);
        }

        say.promise(29, "-2, and nothing happens, without these, or if there are 10");
        String full = Checks.everything(b);
        say.refused(b, full, "an eleventh", b.note(0, 0, 0, 1), -2);
        say.due("none of ten", b.note(-1, 0, 0, 0), 0);
        b.note(0, 0, 0, 1);
        String before = Checks.everything(b);
        for (int no : NO_NUMBERS) {
            say.refused(b, before, "scout " + no, b.note(0, no, 0, 0), -2);
            say.refused(b, before, "kind " + no, b.note(0, 0, no, 0), -2);
        }
        for (int n : new int[] {-2, 61, Integer.MIN_VALUE, Integer.MAX_VALUE}) {
            say.refused(b, before, "n " + n, b.note(n, 0, 0, 0), -2);
        }
        for (int has : new int[] {-1, 2, Integer.MIN_VALUE, Integer.MAX_VALUE}) {
            say.refused(b, before, "has " + has, b.note(0, 0, 0, has), -2);
        }
        say.due("scout 1 of 1", Checks.company(ONE).note(0, 1, 0, 0), -2);
        say.due("kind 1 of 1", Checks.company(ONE).note(0, 0, 1, 0), -2);
        say.due("without a camp", new FailBadge().note(0, 0, 0, 0), -2);
    }

    private void seed() {
        say.promise(32, "x becomes a number: what it was");
        FailBadge b = new FailBadge();
        say.due("0 at first", b.seed(1), 0);
        say.due("1", b.seed(2147483647), 1);
        say.due("the most", b.seed(0), 2147483647);
        say.due("0", b.seed(0), 0);
        say.due("x", b.count(13), 0);

        say.promise(32, "NONE, and nothing happens, below 0");
        b.seed(5);
        say.due("-1", b.seed(-1), -1);
        say.due("the least", b.seed(Integer.MIN_VALUE), -1);
        say.due("x", b.count(13), 5);
    }

    private void count() {
        say.promise(34, "What 0: LEARN, 1: LEAST, 2: calms told, 3: KINDS, 4: SCOUTS, 5: RULES,"
                + " 6: the RULE IN FORCE (NONE), 7: DAY, 8: CALM of this DAY, 9: BADGES of all,"
                + " how many, 10: how often anything came off, 11: NOTES, 12: ACTS that can be"
                + " UNDONE, 13: x, 14: bytes of the TAPE.");
        FailBadge b = Sentences.busyCompany();
        b.feed(1, 2, 3, 4, 5);
        b.attempt(0, 1);
        b.attempt(0, 1);
        int[] want = {1, 2, 2, 2, 2, 1, 0, 1, 4, 2, 3, 1, 4, 77, 20};
        for (int what = 0; what < want.length; what++) {
            say.due("count " + what, b.count(what), want[what]);
        }
        FailBadge none = new FailBadge();
        for (int what = 0; what <= 14; what++) {
            say.due("count " + what + " of a new object", none.count(what), what == 6 ? -1 : 0);
        }
        FailBadge full = Checks.company("camp 5 9" + ";calm 9".repeat(12) + ";kind 30".repeat(6)
                + ";scout".repeat(6));
        for (int i = 0; i < 36; i++) {
            full.attempt(i / 6, i % 6);
        }
        int[] most = {5, 9, 12, 6, 6, 0, -1, 0, 9, 36, 0, 0, 20, 0, 0};
        for (int what = 0; what < most.length; what++) {
            say.due("count " + what + " of a full company", full.count(what), most[what]);
        }

        say.promise(34, "NONE for others.");
        for (int what : new int[] {-1, 15, 16, Integer.MIN_VALUE, Integer.MAX_VALUE}) {
            say.due("count " + what, b.count(what), -1);
            say.due("count " + what + " of a new object", none.count(what), -1);
        }
    }

    private void image() {
        say.promise(35, "An IMAGE is made: DAY");
        FailBadge b = Sentences.busyCompany();
        String before = Checks.everything(b);
        say.refused(b, before, "image 0", b.image(0), 1);
        say.refused(b, before, "image 3", b.image(3), 1);
        b.day();
        say.due("in place of the one there was", b.image(3), 2);
        say.due("that one", b.back(3), 2);
        say.due("the other one", b.back(0), 1);
        say.due("without a camp, on day 0", new FailBadge().image(0), 0);

        say.promise(35, "NONE without it.");
        for (int k : new int[] {-1, 4, 5, Integer.MIN_VALUE, Integer.MAX_VALUE}) {
            say.due("image " + k, b.image(k), -1);
        }
    }

    private void back() {
        say.promise(36, "All is as in an IMAGE: DAY");
        FailBadge b = Sentences.busyCompany();
        b.image(2);
        b.day();
        b.day();
        say.due("back", b.back(2), 1);
        say.due("day", b.count(7), 1);
        FailBadge none = new FailBadge();
        none.image(0);
        Checks.camp(none, ONE);
        none.day();
        say.due("back to no camp", none.back(0), 0);
        say.due("no camp", none.trust(), -1);
        say.due("no camp", none.day(), -1);
        say.due("no scouts", none.count(4), 0);

        say.promise(36, "NONE, and nothing happens, if it was never made, or without it.");
        b.day();
        String before = Checks.everything(b);
        for (int k : new int[] {0, 1, 3, -1, 4, Integer.MIN_VALUE, Integer.MAX_VALUE}) {
            say.refused(b, before, "back " + k, b.back(k), -1);
        }
        say.due("acts can be undone", b.undo(), 0);
        say.due("of a new object", new FailBadge().back(0), -1);
    }
}
