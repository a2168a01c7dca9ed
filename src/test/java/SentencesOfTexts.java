/** Sentences of texts: the terms of CAMPS, RULES and FAULTS, and promises 1 to 6. */
final class SentencesOfTexts {
    private static final String FULL_ROUND = ";calm 0;calm 1;calm 2;calm 3;calm 4;calm 5;calm 6"
            + ";calm 7;calm 8;calm 9;calm 0;calm 7";

    private final Sentences say;

    SentencesOfTexts(Sentences say) {
        this.say = say;
    }

    void all() {
        campTexts();
        campClause();
        calmClause();
        kindAndScoutClauses();
        canClause();
        ruleTexts();
        testsOfRules();
        sumsOfRules();
        wordsOfRules();
        wordsThatCount();
        blanks();
        depth();
        sixtyValuesAndFacts();
        faults();
        faultsOfTooMuch();
        ofOnePlaceTheLeast();
        newObject();
        feed();
        end();
        camp();
        rule();
        force();
    }

    // ---- what the sentences share

    private FailBadge rightCamp(String text, int scouts) {
        FailBadge b = new FailBadge();
        say.due("camp of " + text, Checks.camp(b, text), scouts);
        return b;
    }

    private void wrongCamp(String text, int place, int code) {
        FailBadge b = new FailBadge();
        say.due("camp of " + text, Checks.camp(b, text), Checks.fault(place, code));
        say.due("no camp by " + text, b.trust(), -1);
    }

    private void rightRule(String text) {
        say.due("rule of " + text, Checks.rule(new FailBadge(), text), 0);
    }

    private void wrongRule(String text, int place, int code) {
        FailBadge b = new FailBadge();
        say.due("rule of " + text, Checks.rule(b, text), Checks.fault(place, code));
        say.due("no rule by " + text, b.count(5), 0);
    }

    /** Whether a TEST holds, for a company of one SCOUT and one KIND on DAY 0. */
    private void holds(String test, boolean isSo) {
        FailBadge b = Checks.company("camp 0 0;kind 9;scout", "try 1 if " + test);
        b.day();
        say.due(test, b.scout(0, 2), isSo ? 1 : 0);
    }

    /** Which KIND (-1: none) a SCOUT TRIES on this DAY by one more RULE; whoever fails learns. */
    private void tries(FailBadge b, String rule, int scout, int want) {
        b.force(Checks.rule(b, rule));
        int[] skills = new int[b.count(3)];
        for (int kind = 0; kind < skills.length; kind++) {
            skills[kind] = b.skill(scout, kind);
        }
        b.day();
        int tried = -1;
        for (int kind = 0; kind < skills.length; kind++) {
            tried = b.skill(scout, kind) > skills[kind] ? kind : tried;
        }
        b.undo();
        say.due(rule + " for scout " + scout, tried, want);
    }

    // ---- camps

    private void campTexts() {
        say.terms("A CAMP is a text of at most 400 bytes");
        FailBadge full = new FailBadge();
        Checks.tell(full, "camp 0 0;" + " ".repeat(386) + "scout");
        say.due("bytes", full.count(14), 400);
        say.due("none beyond these", full.feed(0x20202020, 0x20202020, 0, 0, 0), -1);
        say.due("camp of 400 bytes", full.camp(), 1);
        wrongCamp("camp 0 0" + " ".repeat(391) + ";", 400, 0);
        wrongCamp("camp 0 0;" + " ".repeat(387) + "scou", 396, 0);

        say.terms("CLAUSE { ; CLAUSE }, 40 at most");
        rightCamp("camp 0 0", 0);
        wrongCamp("", 0, 0);
        wrongCamp("camp 0 0;", 9, 0);
        wrongCamp("camp 0 0;;scout", 9, 0);
        wrongCamp("camp 0 0 scout", 9, 0);
        String forty = "camp 0 0;kind 1;scout" + ";can0 0 2".repeat(37);
        rightCamp(forty, 1);
        rightCamp(forty + "  ", 1);
        wrongCamp(forty + ";scout", forty.length() + 1, 4);
        wrongCamp(forty + ";can0 0 2", forty.length() + 1, 4);
    }

    private void campClause() {
        say.terms("camp NUMBER NUMBER");
        FailBadge b = rightCamp("camp 1 2", 0);
        say.due("learn", b.count(0), 1);
        say.due("least", b.count(1), 2);
        wrongCamp("camp", 4, 0);
        wrongCamp("camp 1", 6, 0);
        wrongCamp("camp 1;scout", 6, 0);
        wrongCamp("camp 1 2 3", 9, 0);

        say.terms("LEARN 0 to 5");
        say.due("learn 0", rightCamp("camp 0 1", 0).count(0), 0);
        say.due("learn 5", rightCamp("camp 5 1", 0).count(0), 5);
        wrongCamp("camp 6 1", 5, 1);
        wrongCamp("camp 99999 1", 5, 1);

        say.terms("LEAST 0 to 9");
        say.due("least 0", rightCamp("camp 1 0", 0).count(1), 0);
        say.due("least 9", rightCamp("camp 1 9", 0).count(1), 9);
        wrongCamp("camp 1 10", 7, 1);
        wrongCamp("camp 1 99999", 7, 1);

        say.terms("CALM without any told");
        say.due("calm is least", rightCamp("camp 0 7", 0).count(8), 7);
        say.due("calm is told", rightCamp("camp 0 7;calm 0", 0).count(8), 0);

        say.terms("once, the first CLAUSE");
        wrongCamp("camp 0 0;camp 0 0", 9, 4);
        wrongCamp("camp 0 0;scout;camp 0 0", 15, 4);
        wrongCamp("scout;camp 0 0", 0, 4);
        wrongCamp("calm 1", 0, 4);
        wrongCamp("kind 1", 0, 4);
        wrongCamp("can 0 0 0", 0, 4);
    }

    private void calmClause() {
        say.terms("calm NUMBER (0 to 9");
        say.due("calm 0", rightCamp("camp 0 5;calm 0", 0).count(8), 0);
        say.due("calm 9", rightCamp("camp 0 5;calm 9", 0).count(8), 9);
        wrongCamp("camp 0 5;calm 10", 14, 1);
        wrongCamp("camp 0 5;calm", 13, 0);
        wrongCamp("camp 0 5;calm 1 2", 16, 0);

        say.terms("of the next day that comes round");
        FailBadge b = rightCamp("camp 0 5;calm 3;calm 8", 0);
        int[] calms = {3, 8, 3, 8, 3};
        for (int day = 0; day < calms.length; day++) {
            say.due("calm of day " + day, b.count(8), calms[day]);
            b.day();
        }

        say.terms("12 at most");
        FailBadge full = rightCamp("camp 0 5" + FULL_ROUND, 0);
        say.due("calms told", full.count(2), 12);
        for (int day = 0; day < 24; day++) {
            int at = day % 12;
            say.due("calm of day " + day, full.count(8), at < 10 ? at : at == 10 ? 0 : 7);
            full.day();
        }
        wrongCamp("camp 0 5" + FULL_ROUND + ";calm 1", 93, 4);
        say.due("none told", rightCamp("camp 0 5", 0).count(2), 0);
    }

    private void kindAndScoutClauses() {
        say.terms("kind NUMBER (HARD 0 to 30)");
        say.due("hard 0", rightCamp("camp 0 0;kind 0", 0).hard(0), 0);
        say.due("hard 30", rightCamp("camp 0 0;kind 30", 0).hard(0), 30);
        wrongCamp("camp 0 0;kind 31", 14, 1);
        wrongCamp("camp 0 0;kind", 13, 0);
        wrongCamp("camp 0 0;kind 1 2", 16, 0);

        say.terms("scout (no NUMBER)");
        rightCamp("camp 0 0;scout", 1);
        wrongCamp("camp 0 0;scout 0", 15, 0);
        wrongCamp("camp 0 0;scout0", 14, 0);

        say.terms("KINDS 0 to 5, SCOUTS 0 to 5, in the order told.");
        FailBadge b = rightCamp("camp 0 0;kind 11;scout;kind 12;scout;kind 13;scout;kind 14;scout"
                + ";kind 15;scout;kind 16;scout;can 5 5 20;can 0 5 10;can 5 0 5", 6);
        say.due("kinds", b.count(3), 6);
        say.due("scouts", b.count(4), 6);
        for (int kind = 0; kind <= 6; kind++) {
            say.due("hard of " + kind, b.hard(kind), kind < 6 ? 11 + kind : -1);
            say.due("scout " + kind, b.scout(kind, 0), kind < 6 ? 0 : -1);
        }
        say.due("skill", b.skill(5, 5), 20);
        say.due("skill", b.skill(0, 5), 10);
        say.due("skill", b.skill(5, 0), 5);
        rightCamp("camp 0 0" + ";kind 0".repeat(6), 0);

        say.terms("It is DAY 0; nobody has a BADGE.");
        FailBadge c = Checks.company("camp 1 0;kind 9;kind 0;scout;scout");
        c.day();
        c.attempt(1, 1);
        say.due("day ahead of it", c.count(7), 1);
        say.due("badges ahead of it", c.count(9), 2);
        Checks.camp(c, "camp 1 0;kind 9;kind 0;scout;scout");
        say.due("day", c.count(7), 0);
        for (int scout = 0; scout < 2; scout++) {
            say.due("badges of " + scout, c.scout(scout, 0), 0);
            say.due("passed of " + scout, c.scout(scout, 1), 0);
            say.due("tried of " + scout, c.scout(scout, 2), 0);
            say.due("skill of " + scout, c.skill(scout, 0), 0);
        }
    }

    private void canClause() {
        say.terms("can NUMBER NUMBER NUMBER (a SCOUT, a KIND that were told");
        rightCamp("camp 0 0;scout;kind 1;can 0 0 1", 1);
        wrongCamp("camp 0 0;can 0 0 1", 13, 1);
        wrongCamp("camp 0 0;kind 1;can 0 0 1", 20, 1);
        wrongCamp("camp 0 0;scout;can 0 0 1", 21, 1);
        wrongCamp("camp 0 0;scout;kind 1;can 1 0 1", 26, 1);
        wrongCamp("camp 0 0;scout;kind 1;can 0 1 1", 28, 1);
        wrongCamp("camp 0 0;kind 1;can 0 0 1;scout", 20, 1);
        wrongCamp("camp 0 0;scout;can 0 0 1;kind 1", 21, 1);
        wrongCamp("camp 0 0;scout;kind 1;can", 25, 0);
        wrongCamp("camp 0 0;scout;kind 1;can 0", 27, 0);
        wrongCamp("camp 0 0;scout;kind 1;can 0 0", 29, 0);
        wrongCamp("camp 0 0;scout;kind 1;can 0 0 1 1", 32, 0);

        say.terms("SKILL 0 to 20");
        String both = "camp 0 0;scout;kind 1;";
        say.due("skill 0", rightCamp(both + "can 0 0 0", 1).skill(0, 0), 0);
        say.due("skill 20", rightCamp(both + "can 0 0 20", 1).skill(0, 0), 20);
        wrongCamp(both + "can 0 0 21", 30, 1);

        say.terms("of the same two the last told");
        say.due("last", rightCamp(both + "can 0 0 7;can 0 0 20;can 0 0 3", 1).skill(0, 0), 3);
        say.due("last is 0", rightCamp(both + "can 0 0 7;can 0 0 0", 1).skill(0, 0), 0);

        say.terms("0 without");
        FailBadge b = rightCamp("camp 0 0;scout;scout;kind 1;kind 1;can 0 1 6", 2);
        say.due("told", b.skill(0, 1), 6);
        say.due("of another kind", b.skill(0, 0), 0);
        say.due("of another scout", b.skill(1, 1), 0);
        Checks.camp(b, "camp 0 0;scout;scout;kind 1;kind 1");
        say.due("not from the camp before", b.skill(0, 1), 0);
    }

    // ---- rules

    private void ruleTexts() {
        say.terms("RULES 0 to 5");
        FailBadge b = new FailBadge();
        for (int rule = 0; rule < 6; rule++) {
            say.due("rule", Checks.rule(b, "try " + rule), rule);
        }
        say.due("a seventh", Checks.rule(b, "try 6"), -1);
        say.due("force 5", b.force(5), -1);
        say.due("force 6", b.force(6), -2);

        say.terms("texts likewise, 12 CLAUSES at most");
        rightRule("try 1");
        rightRule("try " + " ".repeat(393) + "day");
        wrongRule("try 1" + " ".repeat(394) + ";", 400, 0);
        rightRule("try 1" + ";try 1".repeat(11));
        wrongRule("try 1" + ";try 1".repeat(12), 72, 4);
        wrongRule("", 0, 0);
        wrongRule("try 1;", 6, 0);
        wrongRule("try 1;;try 1", 6, 0);
        wrongRule("try 1 try 1", 6, 0);

        say.terms("try SUM [ if TEST ].");
        rightRule("try day if day = 1");
        wrongRule("try", 3, 0);
        wrongRule("try if 1 = 1", 4, 0);
        wrongRule("try 1 if", 8, 0);
        wrongRule("try 1 if 1", 10, 0);
        wrongRule("try 1 = 1", 6, 0);
        wrongRule("try 1 if 1 = 1 if 1 = 1", 15, 0);
        wrongRule("day", 0, 0);
    }

    private void testsOfRules() {
        say.terms("TEST: PART { or PART }. PART: FACT { and FACT }.");
        holds("1 = 1 or 1 = 1 and 1 = 2", true);
        holds("1 = 2 and 1 = 1 or 1 = 1", true);
        holds("1 = 2 or 1 = 2", false);
        holds("1 = 2 or 1 = 2 or 1 = 1", true);
        holds("1 = 1 and 1 = 1 and 1 = 2", false);
        wrongRule("try 1 if 1 = 1 or", 17, 0);
        wrongRule("try 1 if 1 = 1 and", 18, 0);
        wrongRule("try 1 if or 1 = 1", 9, 0);

        say.terms("FACT: not FACT");
        holds("not 1 = 2", true);
        holds("not not 1 = 2", false);
        holds("not 1 = 1 or 1 = 1", true);
        wrongRule("try 1 if not", 12, 0);
        wrongRule("try 1 if not or", 13, 0);
        wrongRule("try 1 if 1 = not 1", 13, 0);

        say.terms("[ TEST ] (these brackets are signs)");
        holds("[1 = 1]", true);
        holds("[1 = 1 or 1 = 1] and 1 = 2", false);
        holds("not [1 = 2 and 1 = 2]", true);
        wrongRule("try 1 if []", 10, 0);
        wrongRule("try 1 if [1 = 1", 15, 0);
        wrongRule("try 1 if 1 = 1]", 14, 0);
        wrongRule("try 1 if [1] = 1", 11, 0);
        wrongRule("try 1 [if 1 = 1]", 6, 0);

        say.terms("SUM SIGN SUM, SIGN one of < <= = >= >.");
        String[] signs = {"<", "<=", "=", ">=", ">"};
        boolean[][] hold = {{true, false, false}, {true, true, false}, {false, true, false},
            {false, true, true}, {false, false, true}};
        for (int i = 0; i < signs.length; i++) {
            for (int left = 4; left <= 6; left++) {
                String fact = left + signs[i] + "5";
                holds(fact, hold[i][left - 4]);
                holds("not " + fact, !hold[i][left - 4]);
                holds(fact + " and 1 = 1", hold[i][left - 4]);
                holds(fact + " or 1 = 2", hold[i][left - 4]);
            }
        }
        wrongRule("try 1 if 1 =< 1", 12, 0);
        wrongRule("try 1 if 1 == 1", 12, 0);
        wrongRule("try 1 if 1 <> 1", 12, 0);
        wrongRule("try 1 if 1 < = 1", 13, 0);
        wrongRule("try 1 if 1 < 2 < 3", 15, 0);
        wrongRule("try 1 if 1 <", 12, 0);
        wrongRule("try 1 if < 1", 9, 0);
        wrongRule("try 1 if 1 1 1", 11, 0);
        wrongRule("try 1 if <= 1", 9, 0);
        wrongRule("try 1 if 1 = >= 1", 13, 0);
    }

    private void sumsOfRules() {
        say.terms("SUM: TERM { (+ or -) TERM }.");
        holds("9 - 3 - 2 = 4", true);
        holds("9 - 3 + 2 = 8", true);
        holds("1 + 2 * 3 = 7", true);
        holds("3 - 5 < 0", true);
        wrongRule("try -1", 4, 0);
        wrongRule("try 1 +", 7, 0);
        wrongRule("try 1 + - 1", 8, 0);

        say.terms("TERM: VALUE { (* or / or %) VALUE }.");
        holds("40 / 4 / 2 = 5", true);
        holds("7 % 4 * 2 = 6", true);
        holds("2 * 7 % 4 = 2", true);
        holds("9 / 2 * 2 = 8", true);
        wrongRule("try * 1", 4, 0);
        wrongRule("try <=", 4, 0);
        wrongRule("try >=", 4, 0);
        wrongRule("try 1 *", 7, 0);
        wrongRule("try 1 * / 1", 8, 0);

        say.terms("VALUE: NUMBER (1 to 5 digits, as far as digits go on) | WORD.");
        holds("99999 = 100 * 1000 - 1", true);
        holds("00007 = 7", true);
        holds("0 = 00000", true);
        rightRule("try 1if 1=1");
        wrongRule("try 100000", 4, 1);
        wrongRule("try 000000", 4, 1);
        wrongRule("try 1 + 123456 if", 8, 1);
        wrongRule("try 1 1", 6, 0);
        wrongRule("try " + "1".repeat(396), 4, 1);

        say.terms("/ is towards 0, % its rest");
        holds("7 / 2 = 3", true);
        holds("7 % 2 = 1", true);
        holds("6 / 2 = 3", true);
        holds("6 % 2 = 0", true);
        holds("1 / 2 = 0", true);
        // 99999 ^ 4 * 2 goes round to -2922184690805867774.
        String below = "99999*99999*99999*99999*2";
        holds(below + " / 10 * 10 = " + below + " + 4", true);
        holds(below + " % 10 = 0 - 4", true);

        say.terms("both 0 by 0");
        holds("7 / 0 = 0", true);
        holds("7 % 0 = 0", true);
        holds("0 / 0 = 0", true);
        holds("0 % 0 = 0", true);
        holds("5 + 7 / 0 * 9 = 5", true);
        holds("7 / day + 7 % day = 0", true);

        say.terms("all goes round in 64 bits.");
        holds("99999 * 99999 / 99999 = 99999", true);
        holds("65536 * 65536 > 1", true);
        holds("65536 * 65536 * 65536 * 65536 = 0", true);
        holds("65536 * 65536 * 65536 * 32768 < 0", true);
        holds("65536 * 65536 * 65536 * 32768 - 1 > 0", true);
        holds("65536 * 65536 * 65536 * 32767 > 0", true);
        holds(below + " < 0", true);
    }

    private static FailBadge three() {
        return Checks.company("camp 1 1;calm 2;calm 5;kind 20;kind 21;kind 22;scout;scout;scout"
                + ";can 1 2 4");
    }

    private void wordsOfRules() {
        say.terms("WORDS (small letters, as far as these go on) of a SCOUT and a KIND");
        wrongRule("try days", 4, 0);
        wrongRule("try daya", 4, 0);
        wrongRule("try dayz", 4, 0);
        wrongRule("try da", 4, 0);
        wrongRule("try Day", 4, 0);
        wrongRule("try daY", 4, 0);
        wrongRule("try dayY", 7, 0);
        wrongRule("try day`", 7, 0);
        wrongRule("try day{", 7, 0);
        wrongRule("try dayif 1 = 1", 4, 0);
        wrongRule("try camp", 4, 0);
        wrongRule("try learn", 4, 0);
        rightRule("try day*2if 1=1");
        rightRule("try badge+badges");

        say.terms("scout, kind, hard, skill");
        tries(three(), "try 1 if scout = 0", 0, 0);
        tries(three(), "try 1 if scout = 0", 1, -1);
        tries(three(), "try 1 if scout = 2", 2, 0);
        tries(three(), "try 1 if kind = 0", 0, 0);
        tries(three(), "try 1 if kind = 2", 0, 2);
        tries(three(), "try 1 if kind = 3", 0, -1);
        tries(three(), "try 1 if hard = 21", 0, 1);
        tries(three(), "try 1 if skill = 4", 1, 2);
        tries(three(), "try 1 if skill = 4", 0, -1);

        say.terms("badge (1 if the SCOUT has it, else 0)");
        FailBadge b = three();
        b.attempt(0, 1);
        b.attempt(0, 2);
        b.attempt(1, 0);
        tries(b, "try 1 if badge = 0", 0, 0);
        tries(b, "try 1 if badge = 0", 1, 1);
        tries(b, "try 1 if badge = 1", 0, 1);
        tries(b, "try 1 if badge = 1", 1, 0);
        tries(b, "try 1 if badge = 1", 2, -1);
        tries(b, "try 1 if badge > 1 or badge < 0", 0, -1);

        say.terms("badges (how many the SCOUT has)");
        FailBadge c = three();
        tries(c, "try 1 if badges = 0", 0, 0);
        c.attempt(0, 2);
        c.attempt(0, 1);
        c.attempt(1, 1);
        tries(c, "try 1 if badges = 2", 0, 0);
        tries(c, "try 1 if badges = 2", 1, -1);
        tries(c, "try 1 if badges = 1", 1, 0);
        c.attempt(0, 0);
        tries(c, "try 1 if badges = 3", 0, 0);
        tries(c, "try 1 if badges = 0", 2, 0);

        say.terms("others (how many other SCOUTS have this one)");
        FailBadge d = three();
        tries(d, "try 1 if others = 0", 0, 0);
        d.attempt(1, 2);
        d.attempt(2, 2);
        d.attempt(0, 1);
        tries(d, "try 1 if others = 2", 0, 2);
        tries(d, "try 1 if others = 1", 0, -1);
        tries(d, "try 1 if others = 1 and scout > 0", 1, 1);
        tries(d, "try 1 if others = 1 and kind = 2 and scout > 0", 2, 2);
        tries(d, "try 1 if others = 2 and scout > 0", 1, -1);
    }

    private void wordsThatCount() {
        say.terms("calm (of this DAY)");
        FailBadge a = three();
        tries(a, "try 1 if calm = 2", 0, 0);
        tries(a, "try 1 if calm = 5", 0, -1);
        a.day();
        tries(a, "try 1 if calm = 5", 0, 0);
        tries(a, "try 1 if calm = 2", 0, -1);
        tries(Checks.company("camp 1 7;kind 9;scout"), "try 1 if calm = 7", 0, 0);

        say.terms("next (of the DAY behind it)");
        FailBadge b = three();
        tries(b, "try 1 if next = 5", 0, 0);
        tries(b, "try 1 if next = 2", 0, -1);
        b.day();
        // Behind the last of the round comes the first.
        tries(b, "try 1 if next = 2", 0, 0);
        tries(b, "try 1 if next = 5", 0, -1);
        tries(Checks.company("camp 1 7;kind 9;scout"), "try 1 if next = 7", 0, 0);
        tries(Checks.company("camp 1 7;calm 3;kind 9;scout"), "try 1 if next = 3", 0, 0);

        say.terms("passed (how often something came off for the SCOUT)");
        FailBadge c = Checks.company("camp 1 0;kind 0;kind 9;scout;scout");
        tries(c, "try 1 if passed = 0 and kind = 1", 0, 1);
        c.attempt(0, 0);
        c.attempt(0, 1);
        c.attempt(0, 0);
        tries(c, "try 1 if passed = 2 and kind = 1", 0, 1);
        tries(c, "try 1 if passed = 2 and kind = 1", 1, -1);
        tries(c, "try 1 if passed = 0 and kind = 1", 1, 1);

        say.terms("tried (how often the SCOUT tried anything)");
        FailBadge d = Checks.company("camp 1 0;kind 0;kind 9;scout;scout");
        tries(d, "try 1 if tried = 0 and kind = 1", 0, 1);
        d.attempt(0, 0);
        d.attempt(0, 1);
        d.attempt(0, 0);
        d.cut(0, 1);
        d.sham(0, 0);
        tries(d, "try 1 if tried = 3 and kind = 1", 0, 1);
        tries(d, "try 1 if tried = 3 and kind = 1", 1, -1);
        tries(d, "try 1 if tried = 0 and kind = 1", 1, 1);

        say.terms("day");
        FailBadge e = Checks.company("camp 1 0;kind 9;scout");
        tries(e, "try 1 if day = 0", 0, 0);
        tries(e, "try 1 if day = 2", 0, -1);
        e.day();
        e.day();
        tries(e, "try 1 if day = 2", 0, 0);
        tries(e, "try 1 if day = 0", 0, -1);
    }

    private void blanks() {
        say.terms("Blanks (32) stand between as one likes.");
        rightCamp("camp0 0;kind1;scout;can0 0 1", 1);
        rightCamp("   camp   0   0   ;   scout   ;scout   ", 2);
        wrongCamp("camp 00", 7, 0);
        wrongCamp("ca mp 0 0", 0, 0);
        wrongCamp("camp 0\t0", 6, 0);
        wrongCamp("camp 0 0\n", 8, 0);
        wrongCamp("camp 0 0;\u00a0scout", 9, 0);
        wrongCamp("    ", 4, 0);
        rightRule("try1if[1=1]and not[1<2or 3>=4]");
        rightRule("   try   1   if   [   1   =   1   ]   ;   try 1   ");
        wrongRule("try 1 if 1 > = 1", 13, 0);
        wrongRule("try 1 if no t 1 = 1", 9, 0);
        wrongRule("try\t1", 3, 0);
        wrongRule("try\u00001", 3, 0);
    }

    private void depth() {
        say.terms("[ and not lie within one another 10 deep at most");
        rightRule("try 1 if " + "[".repeat(10) + "1=1" + "]".repeat(10));
        wrongRule("try 1 if " + "[".repeat(11) + "1=1" + "]".repeat(11), 19, 2);
        rightRule("try 1 if " + "not ".repeat(10) + "1=1");
        wrongRule("try 1 if " + "not ".repeat(11) + "1=1", 49, 2);
        rightRule("try 1 if " + "[not".repeat(5) + " 1=1" + "]".repeat(5));
        wrongRule("try 1 if " + "[not".repeat(5) + "[1=1]" + "]".repeat(5), 29, 2);
        // Those that lie side by side are not within one another.
        rightRule("try 1 if [1=1]" + "and[1=1]".repeat(11));
        rightRule("try 1 if not 1=1" + " and not 1=1".repeat(11));
        String ten = "[".repeat(9) + "[1=1]and not 1=1 or[1=1]" + "]".repeat(9);
        rightRule("try 1 if " + ten);
        rightRule("try 1 if " + ten + ";try 1 if " + ten);
        holds("[".repeat(10) + "1=1" + "]".repeat(10), true);
        holds("not ".repeat(10) + "1=1", true);
        holds("not ".repeat(9) + "1=1", false);
    }

    private void sixtyValuesAndFacts() {
        say.terms("at most 60 VALUES (of SUMS) and FACTS made of a SIGN, together.");
        rightRule("try 1" + "+1".repeat(59));
        wrongRule("try 1" + "+1".repeat(60), 124, 3);
        // Each FACT of two NUMBERS counts three times: 1 + 19 * 3 = 58.
        String facts = "1=1" + " and 1=1".repeat(18);
        rightRule("try 1 if " + facts);
        rightRule("try 1+1+1 if " + facts);
        wrongRule("try 1 if " + facts + " and 1=1", 163, 3);
        wrongRule("try 1+1 if " + facts + " and 1=1", 164, 3);
        wrongRule("try 1+1+1 if " + facts + " and 1=1", 165, 3);
        // Brackets, not, and, or do not count; all CLAUSES do, together.
        rightRule("try 1+1+1 if not not[[[" + facts + "]]]");
        rightRule("try day;try day" + "+1".repeat(58));
        wrongRule("try day;try day" + "+1".repeat(59), 132, 3);
        FailBadge b = Checks.company("camp 1 0;kind 9;kind 9;scout");
        for (int rule = 0; rule < 5; rule++) {
            say.due("sixty in each", Checks.rule(b, "try 0" + "+0".repeat(59)), rule);
        }
        tries(b, "try 1" + "+0".repeat(56) + " if kind = 1", 0, 1);
    }

    // ---- faults

    private void faults() {
        say.terms("FAULTS, the first along the text");
        wrongCamp("camp 6 10", 5, 1);
        wrongCamp("camp 0 10;kind 31", 7, 1);
        wrongCamp("camp 0 0;kind 31;x", 14, 1);
        wrongRule("try x + 123456", 4, 0);
        wrongRule("try 123456 + x", 4, 1);
        wrongRule("try 1 if " + "[".repeat(11) + "x", 19, 2);
        wrongRule("try 1 if x " + "[".repeat(11), 9, 0);

        say.terms("1 + 8 * its place and");
        say.due("camp of nothing", new FailBadge().camp(), -3);
        say.due("rule of nothing", new FailBadge().rule(), -3);
        say.due("camp 6 0", Checks.camp(new FailBadge(), "camp 6 0"), -44);
        say.due("scout", Checks.camp(new FailBadge(), "scout"), -7);
        say.due("try 1 if 11 deep", Checks.rule(new FailBadge(), "try 1 if " + "[".repeat(11)),
                -157);
        say.due("61 values", Checks.rule(new FailBadge(), "try 1" + "+1".repeat(60)), -998);
        say.due("400 bytes", Checks.rule(new FailBadge(), "try 1" + " ".repeat(394) + ";"), -3203);

        say.terms("0 a byte or WORD that can't stand there, or the end (behind the last byte)");
        wrongCamp("\u0000", 0, 0);
        wrongCamp("camp 0 0\u0000", 8, 0);
        wrongCamp("camp 0 0;\u00ff", 9, 0);
        wrongCamp("camp 0 0;scouts", 9, 0);
        wrongCamp("camp 0 0;  try 1", 11, 0);
        wrongCamp("camp 0,0", 6, 0);
        wrongCamp("camp 0 ", 7, 0);
        wrongCamp("camp 0 0 ;  ", 12, 0);
        wrongRule("try ", 4, 0);
        wrongRule("try 1;   ", 9, 0);
        wrongRule("try 1 if 1 = 1 xor 1 = 1", 15, 0);
        wrongRule("try 1 if 1 & 1", 11, 0);
        wrongRule("camp 0 0", 0, 0);
    }

    private void faultsOfTooMuch() {
        say.terms("1 a NUMBER of more digits, or not as told");
        wrongCamp("camp 000000 0", 5, 1);
        wrongCamp("camp 0 000009", 7, 1);
        rightCamp("camp 00000 00009", 0);
        wrongCamp("camp 0 4294967296", 7, 1);
        wrongCamp("camp 0 18446744073709551616", 7, 1);
        wrongCamp("camp 0 0;kind " + "0".repeat(386), 14, 1);
        wrongRule("try 000000", 4, 1);
        wrongRule("try 4294967297", 4, 1);
        wrongRule("try 1 if 1 = 123456", 13, 1);

        say.terms("2 too deep (at the sign that opens, or the word not)");
        wrongRule("try 1 if " + "[ ".repeat(10) + "  [", 31, 2);
        wrongRule("try 1 if " + "[ ".repeat(10) + "  not", 31, 2);
        wrongRule("try 1 if " + "not ".repeat(10) + "[", 49, 2);
        wrongRule("try 1 if 1=1 and " + "[".repeat(11), 27, 2);
        wrongRule("try 1 if " + "[".repeat(10), 19, 0);

        say.terms("3 one VALUE or FACT too many (at its first byte; of a FACT at its SIGN)");
        String sixty = "try 1" + "+1".repeat(59);
        wrongRule(sixty + "+  99999", 126, 3);
        wrongRule(sixty + "+badges", 124, 3);
        wrongRule(sixty + "%  passed if", 126, 3);
        wrongRule(sixty + " if 1 = 1", 127, 3);
        String fiftyNine = "try 1" + "+1".repeat(58);
        wrongRule(fiftyNine + " if day   >=   day", 131, 3);
        wrongRule(fiftyNine + " if day=", 128, 3);
        wrongRule(sixty + ";try 1", 128, 3);

        say.terms("4 one CLAUSE too many");
        String forty = "camp 0 0;kind 1;scout" + ";can0 0 2".repeat(37);
        wrongCamp(forty + ";  scout", forty.length() + 3, 4);
        wrongCamp(forty + ";kind", forty.length() + 1, 4);
        wrongRule("try 1;".repeat(12) + "  try 1", 74, 4);
        wrongRule("try 1;".repeat(12) + "try", 72, 4);

        say.terms("a second camp, another CLAUSE ahead of it");
        wrongCamp("camp 0 0; camp 0 0", 10, 4);
        wrongCamp("camp 0 0;camp", 9, 4);
        wrongCamp("  scout;camp 0 0", 2, 4);
        wrongCamp("calm", 0, 4);

        say.terms("a thirteenth calm, a seventh KIND or SCOUT (at its first byte).");
        wrongCamp("camp 0 0" + FULL_ROUND + ";  calm 1", 95, 4);
        wrongCamp("camp 0 0" + FULL_ROUND + ";calm", 93, 4);
        wrongCamp("camp 0 0" + ";kind 1".repeat(6) + ";  kind 1", 53, 4);
        wrongCamp("camp 0 0" + ";kind 1".repeat(6) + ";kind 31", 51, 4);
        wrongCamp("camp 0 0" + ";scout".repeat(6) + ";  scout", 47, 4);
        rightCamp("camp 0 0" + FULL_ROUND + ";kind 1".repeat(6) + ";scout".repeat(6), 6);
    }

    private void ofOnePlaceTheLeast() {
        say.terms("Of one place the least.");
        String forty = "camp 0 0;kind 1;scout" + ";can0 0 2".repeat(37);
        wrongCamp(forty + ";x", forty.length() + 1, 0);
        wrongCamp(forty + ";", forty.length() + 1, 0);
        wrongCamp("camp 0 0 123456", 9, 0);
        wrongCamp("camp 0 0;scout 999999", 15, 0);
        wrongCamp("123456", 0, 0);
        wrongRule("try 1;".repeat(12) + "tri 1", 72, 0);
        wrongRule("try 1;".repeat(12), 72, 0);
        wrongRule("try 1 123456", 6, 0);
        String sixty = "try 1" + "+1".repeat(59);
        wrongRule(sixty + "+x", 124, 0);
        wrongRule(sixty + "+", 124, 0);
        wrongRule(sixty + "+123456", 124, 1);
        wrongRule(sixty + " < 1", 124, 0);
        wrongRule("try 1 if " + "[".repeat(10) + "1[", 20, 0);
        wrongRule("try 1 if " + "[".repeat(10) + "1 not", 21, 0);
        wrongRule("try 1 if " + "[".repeat(10) + "nots", 19, 0);
    }

    // ---- promises 1 to 6

    private void newObject() {
        say.terms("The constants: `NONE = -1`: None.");
        say.due("NONE", FailBadge.NONE, -1);

        say.promise(1, "No CAMP");
        FailBadge b = new FailBadge();
        say.due("day", b.day(), -1);
        say.due("trust", b.trust(), -1);
        say.due("off", b.off(0), -1);
        say.due("match", b.match(-1), -3);
        say.due("ruled", b.ruled(0), -3);
        say.due("look", b.look(0, 0), -1);
        say.due("kinds", b.count(3), 0);
        say.due("scouts", b.count(4), 0);

        say.promise(1, "no RULES");
        say.due("rules", b.count(5), 0);
        say.due("force 0", b.force(0), -2);

        say.promise(1, "none IN FORCE.");
        say.due("in force", b.count(6), -1);
        say.due("force none: none was", b.force(-1), -1);
    }

    private void feed() {
        say.promise(2, "Twenty bytes come behind the TAPE, of each number the highest first:"
                + " how many it has");
        FailBadge b = new FailBadge();
        say.due("feed", b.feed(0x63616d70, 0x20332034, 0x3b6b696e, 0x64203930, 0x30303030), 20);
        say.due("end", b.end(15), 15);
        say.due("feed", b.feed(0x3b73636f, 0x75743b73, 0x636f7574, -1, Integer.MIN_VALUE), 35);
        say.due("end", b.end(27), 27);
        say.due("camp 3 4;kind 9;scout;scout", b.camp(), 2);
        say.due("learn", b.count(0), 3);
        say.due("least", b.count(1), 4);
        say.due("hard", b.hard(0), 9);
        // Of a number below 0 the highest byte is one of 128 to 255.
        b.feed(0x20a00000, 0, 0, 0, 0);
        say.due("byte 160 is no blank", b.camp(), Checks.fault(1, 0));
        for (int i = 1; i <= 20; i++) {
            say.due("feed", b.feed(i, i, i, i, i), 20 * i);
        }

        say.promise(2, "NONE, and none comes, if it would have more than 400");
        say.due("a twenty-first", b.feed(1, 1, 1, 1, 1), -1);
        say.due("bytes", b.count(14), 400);
        b.end(381);
        say.due("401", b.feed(1, 1, 1, 1, 1), -1);
        say.due("bytes", b.count(14), 381);
        b.end(380);
        say.due("400", b.feed(1, 1, 1, 1, 1), 400);
        FailBadge c = new FailBadge();
        Checks.tell(c, "camp 0 0" + " ".repeat(373) + ";scout");
        say.due("bytes", c.count(14), 387);
        say.due("would be 407", c.feed(0x3b73636f, 0x75742020, 0, 0, 0), -1);
        say.due("none came", c.camp(), 1);
    }

    private void end() {
        say.promise(3, "The TAPE has its first n bytes alone: n");
        FailBadge b = new FailBadge();
        say.due("0 of none", b.end(0), 0);
        Checks.tell(b, "camp 0 0;scout;scout");
        say.due("all of them", b.end(20), 20);
        say.due("the first 14", b.end(14), 14);
        say.due("bytes", b.count(14), 14);
        say.due("one scout is left", b.camp(), 1);
        Checks.tell(b, "try 1 if 1 <= 1");
        say.due("a sign that is cut in two", b.end(12), 12);
        say.due("what is cut off is gone", b.rule(), Checks.fault(12, 0));
        Checks.tell(b, "try 1 if day = 123456");
        b.end(20);
        say.due("five digits are left", b.rule(), 0);
        b.feed(1, 2, 3, 4, 5);
        say.due("none of them", b.end(0), 0);
        say.due("bytes", b.count(14), 0);

        say.promise(3, "NONE, and nothing happens, if it has not so many, or n is below 0");
        say.due("1 of none", b.end(1), -1);
        b.feed(1, 2, 3, 4, 5);
        for (int n : new int[] {21, 400, 401, Integer.MAX_VALUE, -1, -20, Integer.MIN_VALUE}) {
            say.due("end " + n, b.end(n), -1);
            say.due("bytes behind end " + n, b.count(14), 20);
        }
        b.end(7);
        say.due("what was cut off does not come back", b.end(8), -1);
    }

    private void camp() {
        say.promise(4, "The TAPE, which is empty then, is the CAMP in place of the one there was");
        FailBadge b = Sentences.busyCompany();
        say.due("camp", Checks.camp(b, "camp 4 5;kind 30;scout;can 0 0 6"), 1);
        int[] want = {4, 5, 0, 1, 1, 1, 0, 0, 5, 0, 0, 0, 0, 77, 0};
        for (int what = 0; what < want.length; what++) {
            say.due("count " + what, b.count(what), want[what]);
        }
        say.due("skill", b.skill(0, 0), 6);
        say.due("no second scout", b.scout(1, 0), -1);
        say.due("no second kind", b.hard(1), -1);

        say.promise(4, "no NOTES, nothing to be UNDONE; the RULE IN FORCE and x stay");
        FailBadge c = Sentences.busyCompany();
        say.due("notes", c.count(11), 1);
        say.due("acts", c.count(12), 2);
        Checks.camp(c, "camp 4 5");
        say.due("notes", c.count(11), 0);
        say.due("acts", c.count(12), 0);
        say.due("undo", c.undo(), -1);
        say.due("in force", c.count(6), 0);
        say.due("rules", c.count(5), 1);
        say.due("x", c.count(13), 77);

        say.promise(4, "how many SCOUTS");
        for (int scouts = 0; scouts <= 6; scouts++) {
            rightCamp("camp 0 0" + ";scout".repeat(scouts), scouts);
        }

        say.promise(4, "-2 - its FAULT, and all stays");
        FailBadge d = Sentences.busyCompany();
        String before = Checks.everything(d);
        say.refused(d, before, "nothing told", d.camp(), -3);
        for (String text : new String[] {"x", "camp 0 0;scout;kind 31", "camp 0 0;", "try 1"}) {
            int place = text.equals("camp 0 0;scout;kind 31") ? 20 : text.equals("camp 0 0;") ? 9 : 0;
            say.refused(d, before, text, Checks.camp(d, text),
                    Checks.fault(place, place == 20 ? 1 : 0));
        }
        say.due("acts can be undone", d.undo(), 1);
    }

    private void rule() {
        say.promise(5, "The TAPE, which is empty then, is a RULE: its number");
        FailBadge b = new FailBadge();
        for (int rule = 0; rule < 6; rule++) {
            say.due("rule", Checks.rule(b, "try 1"), rule);
            say.due("bytes", b.count(14), 0);
            say.due("rules", b.count(5), rule + 1);
            say.due("none is in force by that", b.count(6), -1);
        }

        say.promise(5, "-2 - its FAULT");
        FailBadge c = Sentences.busyCompany();
        String before = Checks.everything(c);
        say.refused(c, before, "nothing told", c.rule(), -3);
        say.refused(c, before, "try 1;", Checks.rule(c, "try 1;"), Checks.fault(6, 0));
        say.refused(c, before, "try 123456", Checks.rule(c, "try 123456"), Checks.fault(4, 1));
        say.due("the next right one", Checks.rule(c, "try 1"), 1);

        say.promise(5, "NONE, and nothing happens: there are 6");
        Checks.tell(b, "try 1");
        String full = Checks.everything(b);
        say.refused(b, full, "a seventh", b.rule(), -1);
        say.due("its bytes stay", b.count(14), 5);
        b.end(0);
        say.due("a seventh of no bytes", b.rule(), -1);
        Checks.tell(b, "try");
        say.due("a seventh with a fault", b.rule(), -1);
        say.due("its bytes stay", b.count(14), 3);
    }

    private void force() {
        say.promise(6, "A RULE is IN FORCE (NONE: none): which was");
        FailBadge b = Checks.company("camp 0 0;kind 9;kind 8;scout");
        for (int rule = 0; rule < 6; rule++) {
            Checks.rule(b, "try 1 if kind = 1");
        }
        say.due("force 5", b.force(5), -1);
        say.due("by rule 5", b.ahead(0, 1, 0), 0b10);
        say.due("force 0", b.force(0), 5);
        say.due("force 0 again", b.force(0), 0);
        say.due("force none", b.force(-1), 0);
        say.due("by none", b.ahead(0, 1, 0), 0b01);
        say.due("force none again", b.force(-1), -1);
        say.due("is no act", b.count(12), 0);

        say.promise(6, "-2, and nothing happens, if there is none such");
        b.force(3);
        String before = Checks.everything(b);
        for (int rule : new int[] {6, 7, -2, -3, Integer.MAX_VALUE, Integer.MIN_VALUE}) {
            say.refused(b, before, "force " + rule, b.force(rule), -2);
        }
        FailBadge c = new FailBadge();
        Checks.rule(c, "try 1");
        say.due("force 1 of one", c.force(1), -2);
        say.due("in force", c.count(6), -1);
        say.due("force 0 of one", c.force(0), -1);
    }
}
