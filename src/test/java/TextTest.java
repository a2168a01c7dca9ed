/** Promises 1 to 6: a new object, feed, end, camp, rule, force, and the FAULTS of texts. */
public final class TextTest {
    private static final Checks CHECKS = new Checks();

    public static void main(String[] args) {
        newObject();
        feedAndEnd();
        campTakesItsPlace();
        campsThatAreRight();
        campFaults();
        rulesThatAreRight();
        ruleFaults();
        ruleLimits();
        bytesThatWereCutOff();
        whenTheTapeIsFull();
        sixRules();
        force();
        CHECKS.close();
    }

    private static void due(String call, long got, long want) {
        CHECKS.due(call, got, want);
    }

    private static void newObject() {
        FailBadge b = new FailBadge();
        for (int what = 0; what <= 14; what++) {
            due("count " + what + " of a new object", b.count(what), what == 6 ? -1 : 0);
        }
        due("NONE", FailBadge.NONE, -1);
        due("day", b.day(), -1);
        due("attempt", b.attempt(0, 0), -1);
        due("sham", b.sham(0, 0), -1);
        due("teach", b.teach(0, 1, 0), -1);
        due("cut", b.cut(0, 0), -1);
        due("undo", b.undo(), -1);
        due("scout", b.scout(0, 0), -1);
        due("skill", b.skill(0, 0), -1);
        due("hard", b.hard(0), -1);
        due("ahead", b.ahead(0, 0, 0), -1);
        due("arm", b.arm(0), -1);
        due("off", b.off(0), -1);
        due("cover", b.cover(0), -1);
        due("match", b.match(-1), -3);
        due("match of 0", b.match(0), -3);
        due("trust", b.trust(), -1);
        due("row", b.row(0, 1, 0), -3);
        due("leastLearn", b.leastLearn(1), -1);
        due("calmest", b.calmest(0, 0), -1);
        due("leftOut", b.leftOut(1, 0), -1);
        due("rests", b.rests(0, 1, 1, 0), -1000);
        due("pence", b.pence(1, 0), -1);
        due("ring", b.ring(0), -1);
        due("note", b.note(0, 0, 0, 0), -2);
        due("note none", b.note(-1, 0, 0, 0), 0);
        due("ruled", b.ruled(0), -3);
        due("look", b.look(0, 0), -1);
        due("camps", b.camps(1, 1, 0, 0), -1);
        due("force 0", b.force(0), -2);
        due("force none", b.force(-1), -1);
    }

    private static void feedAndEnd() {
        FailBadge b = new FailBadge();
        due("end 0 of none", b.end(0), 0);
        due("end 1 of none", b.end(1), -1);
        for (int i = 1; i <= 20; i++) {
            due("feed", b.feed(0, 0, 0, 0, 0), 20 * i);
        }
        due("feed beyond 400", b.feed(0, 0, 0, 0, 0), -1);
        due("bytes", b.count(14), 400);
        due("end 401", b.end(401), -1);
        due("end -1", b.end(-1), -1);
        due("end 400", b.end(400), 400);
        due("end 381", b.end(381), 381);
        due("feed to 401", b.feed(0, 0, 0, 0, 0), -1);
        due("end 380", b.end(380), 380);
        due("feed to 400", b.feed(0, 0, 0, 0, 0), 400);
        due("end 0", b.end(0), 0);
        // Bytes come highest first, and those behind what was cut off are gone.
        due("feed", b.feed(0x63616d70, 0x20332034, 0x3b6b696e, 0x64203960, 0), 20);
        due("end", b.end(15), 15);
        due("camp", b.camp(), 0);
        due("learn", b.count(0), 3);
        due("least", b.count(1), 4);
        due("hard", b.hard(0), 9);
    }

    private static void campTakesItsPlace() {
        FailBadge b = new FailBadge();
        due("camp", Checks.camp(b, "camp 1 2;kind 5;kind 6;scout;scout;scout;can 2 1 7"), 3);
        due("tape", b.count(14), 0);
        due("skill", b.skill(2, 1), 7);
        Checks.rule(b, "try 1");
        b.force(0);
        b.seed(77);
        b.day();
        b.note(0, 0, 0, 0);
        due("day", b.count(7), 1);
        due("acts", b.count(12), 1);
        due("bad camp", Checks.camp(b, "camp 1 2;kind x"), Checks.fault(14, 0));
        due("camp stays", b.count(4), 3);
        due("day stays", b.count(7), 1);
        due("notes stay", b.count(11), 1);
        due("acts stay", b.count(12), 1);
        due("badges stay", b.count(9), 3);
        due("camp", Checks.camp(b, "camp 4 3;calm 8;kind 30;scout"), 1);
        due("learn", b.count(0), 4);
        due("least", b.count(1), 3);
        due("calms", b.count(2), 1);
        due("kinds", b.count(3), 1);
        due("day", b.count(7), 0);
        due("calm", b.count(8), 8);
        due("badges", b.count(9), 0);
        due("off", b.count(10), 0);
        due("notes", b.count(11), 0);
        due("acts", b.count(12), 0);
        due("undo", b.undo(), -1);
        due("in force", b.count(6), 0);
        due("x", b.count(13), 77);
        due("skill", b.skill(0, 0), 0);
    }

    private static void campsThatAreRight() {
        right("camp 0 0", 0);
        right("camp 5 9", 0);
        right("  camp5 9 ;scout;  scout  ", 2);
        right("camp 00005 00009;kind30;kind 0", 0);
        right("camp 0 0;scout;kind 1;can 0 0 20;can 0 0 3", 1);
        right("camp 0 0" + ";calm 9".repeat(12), 0);
        right("camp 0 0" + ";kind 9".repeat(6) + ";scout".repeat(6), 6);
        right("camp 0 0;kind 1;scout" + ";can 0 0 2".repeat(37), 1);
        FailBadge b = new FailBadge();
        Checks.camp(b, "camp 0 0;scout;kind 1;can 0 0 20;can 0 0 3");
        due("the last told", b.skill(0, 0), 3);
    }

    private static void right(String text, int scouts) {
        due(text, Checks.camp(new FailBadge(), text), scouts);
    }

    private static void campFaults() {
        wrongCamp("", 0, 0);
        wrongCamp("   ", 3, 0);
        wrongCamp(";", 0, 0);
        wrongCamp("camp", 4, 0);
        wrongCamp("camp 1", 6, 0);
        wrongCamp("camp 6 0", 5, 1);
        wrongCamp("camp 0 10", 7, 1);
        wrongCamp("camp 000000 0", 5, 1);
        wrongCamp("camp 0 1234567890123", 7, 1);
        wrongCamp("camp -1 0", 5, 0);
        wrongCamp("camps 0 0", 0, 0);
        wrongCamp("Camp 0 0", 0, 0);
        wrongCamp("camp\t0 0", 4, 0);
        wrongCamp("camp 0 0\u0000", 8, 0);
        wrongCamp("camp 0 0\u00ff", 8, 0);
        wrongCamp("camp 0 0;", 9, 0);
        wrongCamp("camp 0 0; ", 10, 0);
        wrongCamp("camp 0 0 0", 9, 0);
        wrongCamp("camp 0 0 calm 1", 9, 0);
        wrongCamp("calm 0", 0, 4);
        wrongCamp(" scout", 1, 4);
        wrongCamp("try 1", 0, 0);
        wrongCamp("camp 0 0;camp 0 0", 9, 4);
        wrongCamp("camp 0 0;try 1", 9, 0);
        wrongCamp("camp 0 0;calm 10", 14, 1);
        wrongCamp("camp 0 0;kind 31", 14, 1);
        wrongCamp("camp 0 0;kind", 13, 0);
        wrongCamp("camp 0 0;scout 1", 15, 0);
        wrongCamp("camp 0 0;scouts", 9, 0);
        wrongCamp("camp 0 0;can 0 0 0", 13, 1);
        wrongCamp("camp 0 0;scout;can 0 0 0", 21, 1);
        wrongCamp("camp 0 0;scout;can 0", 20, 0);
        wrongCamp("camp 0 0;scout;kind 0;can 0 0 21", 30, 1);
        wrongCamp("camp 0 0;scout;kind 0;can 1 0 1", 26, 1);
        // Whoever can something must have been told ahead of it.
        wrongCamp("camp 0 0;kind 0;can 0 0 1;scout", 20, 1);
        wrongCamp("camp 0 0" + ";calm 1".repeat(13), 9 + 7 * 12, 4);
        wrongCamp("camp 0 0" + ";kind 1".repeat(7), 9 + 7 * 6, 4);
        wrongCamp("camp 0 0" + ";scout".repeat(7), 9 + 6 * 6, 4);
        wrongCamp("camp 0 0;kind 1;scout;" + " can 0 0 2;".repeat(33) + "x", 385, 0);
        String forty = "camp 0 0;kind 1;scout" + ";can0 0 2".repeat(37);
        wrongCamp(forty + ";can 0 0 2", forty.length() + 1, 4);
        wrongCamp(forty + ";  scout", forty.length() + 3, 4);
        wrongCamp(forty + ";x", forty.length() + 1, 0);
        wrongCamp(forty + ";", forty.length() + 1, 0);
    }

    private static void wrongCamp(String text, int place, int code) {
        FailBadge b = new FailBadge();
        due("camp of " + text, Checks.camp(b, text), Checks.fault(place, code));
        due("no camp by it", b.trust(), -1);
        due("no scouts by it", b.count(4), 0);
    }

    private static void rulesThatAreRight() {
        String[] texts = {"try 1", " try1 ", "try hard - skill", "try 99999*kind%scout/2+7-day",
            "try 1 if calm = 1", "try 1if[1<2]", "try 1 if not not[1<=2or 3>=4and next>2]",
            "try skill*badge if badges+others>passed or tried = 0;try 00001",
            "try 1 if " + "[".repeat(10) + "1=1" + "]".repeat(10),
            "try 1 if " + "not".repeat(0) + "not ".repeat(10) + "1=1",
            "try 1 if not [ not [ not [ not [ not [ 1=1 ] ] ] ] ]",
            "try 1" + "+1".repeat(59), "try 1;".repeat(11) + "try 1"};
        for (String text : texts) {
            due("rule of " + text, Checks.rule(new FailBadge(), text), 0);
        }
    }

    private static void ruleFaults() {
        wrongRule("", 0, 0);
        wrongRule("try", 3, 0);
        wrongRule("try ", 4, 0);
        wrongRule("trys 1", 0, 0);
        wrongRule("tryz 1", 0, 0);
        wrongRule("try 1 if dayz = 1", 9, 0);
        wrongRule("camp 0 0", 0, 0);
        wrongRule("try x", 4, 0);
        wrongRule("try not", 4, 0);
        wrongRule("try if", 4, 0);
        wrongRule("try -1", 4, 0);
        wrongRule("try [1]", 4, 0);
        wrongRule("try 123456", 4, 1);
        wrongRule("try 1+000000", 6, 1);
        wrongRule("try 1 2", 6, 0);
        wrongRule("try 1 kind", 6, 0);
        wrongRule("try 1 < 2", 6, 0);
        wrongRule("try 1 ifs 1<2", 6, 0);
        wrongRule("try 1;", 6, 0);
        wrongRule("try 1; ;try 1", 7, 0);
        wrongRule("try 1;if 1<2", 6, 0);
        wrongRule("try 5 %", 7, 0);
        wrongRule("try 1 if", 8, 0);
        wrongRule("try 1 if 2", 10, 0);
        wrongRule("try 1 if 2 < = 3", 13, 0);
        wrongRule("try 1 if 2 =< 3", 12, 0);
        wrongRule("try 1 if 2 >== 3", 13, 0);
        wrongRule("try 1 if 2 = 3 = 4", 15, 0);
        wrongRule("try 1 if calm = 1]", 17, 0);
        wrongRule("try 1 if [calm = 1", 18, 0);
        wrongRule("try 1 if [calm = 1;", 18, 0);
        wrongRule("try 1 if []", 10, 0);
        wrongRule("try 1 if [1] = 1", 11, 0);
        wrongRule("try 1 if not", 12, 0);
        wrongRule("try 1 if 1=1 and", 16, 0);
        wrongRule("try 1 if 1=1 and or", 17, 0);
        wrongRule("try 1 if 1=1 if 1=1", 13, 0);
        wrongRule("try 1 if 1+not 1=1", 11, 0);
        wrongRule("try badgess", 4, 0);
        wrongRule("try badg", 4, 0);
        wrongRule("try Day", 4, 0);
    }

    private static void ruleLimits() {
        wrongRule("try 1 if " + "[".repeat(11), 19, 2);
        wrongRule("try 1 if " + "not ".repeat(11), 49, 2);
        wrongRule("try 1 if " + "[not".repeat(5) + " not 1=1", 30, 2);
        wrongRule("try 1 if " + "[not".repeat(5) + "[1=1", 29, 2);
        String sixty = "try 1" + "+1".repeat(59);
        wrongRule(sixty + "+1", sixty.length() + 1, 3);
        wrongRule(sixty + "+day", sixty.length() + 1, 3);
        wrongRule(sixty + "+x", sixty.length() + 1, 0);
        wrongRule(sixty + "+123456", sixty.length() + 1, 1);
        wrongRule(sixty + "+", sixty.length() + 1, 0);
        wrongRule(sixty + ";try 1", sixty.length() + 5, 3);
        wrongRule(sixty + " if 1=1", sixty.length() + 4, 3);
        String fiftyNine = "try 1" + "+1".repeat(58);
        wrongRule(fiftyNine + " if 1 >= 1", fiftyNine.length() + 6, 3);
        String fiftyEight = "try 1" + "+1".repeat(57);
        wrongRule(fiftyEight + " if 1=1", fiftyEight.length() + 6, 3);
        String fiftySeven = "try 1" + "+1".repeat(56);
        due("sixty with a sign", Checks.rule(new FailBadge(), fiftySeven + " if 1=1"), 0);
        wrongRule("try 1;".repeat(12) + "try 1", 72, 4);
        wrongRule("try 1;".repeat(12) + "tri 1", 72, 0);
        wrongRule("try 1;".repeat(12), 72, 0);
        wrongRule("try 1;".repeat(12) + "  try", 74, 4);
        wrongRule("try 1+".repeat(66), 6, 0);
    }

    private static void wrongRule(String text, int place, int code) {
        FailBadge b = new FailBadge();
        due("rule of " + text, Checks.rule(b, text), Checks.fault(place, code));
        due("no rule by it", b.count(5), 0);
        due("tape behind a fault", b.count(14), 0);
    }

    /** What was fed, but cut off by end, is no part of the last token. */
    private static void bytesThatWereCutOff() {
        String[] texts = {"try 1 if 2 <=3", "trys 1", "try 1 if  1=1", "try 1 if calm = 1234567"};
        int[] lengths = {12, 3, 9, 17};
        int[] answers = {Checks.fault(12, 0), Checks.fault(3, 0), Checks.fault(9, 0), 0};
        for (int i = 0; i < texts.length; i++) {
            FailBadge b = new FailBadge();
            Checks.tell(b, texts[i]);
            due("end", b.end(lengths[i]), lengths[i]);
            due(texts[i] + " cut to " + lengths[i], b.rule(), answers[i]);
        }
    }

    /** A word, a number, a sign that are the last of 400 bytes. */
    private static void whenTheTapeIsFull() {
        wrongCamp("camp 0 0;" + " ".repeat(387) + "scou", 396, 0);
        wrongCamp("camp 0 0;" + " ".repeat(387) + "kind", 400, 0);
        wrongCamp("camp 0 " + " ".repeat(391) + "10", 398, 1);
        wrongCamp("camp 0 0" + " ".repeat(391) + ";", 400, 0);
        right("camp 0 0;" + " ".repeat(386) + "scout", 1);
        right("camp 0 " + " ".repeat(392) + "9", 0);
        wrongRule("try 1 if 1" + " ".repeat(389) + "<", 400, 0);
        wrongRule("try 1 if 1" + " ".repeat(388) + ">=", 400, 0);
        wrongRule("try 1 " + " ".repeat(392) + "no", 398, 0);
        wrongRule("try " + " ".repeat(393) + "pas", 397, 0);
        due("rule", Checks.rule(new FailBadge(), "try " + " ".repeat(393) + "day"), 0);
    }

    private static void sixRules() {
        FailBadge b = new FailBadge();
        for (int i = 0; i < 6; i++) {
            due("a wrong rule", Checks.rule(b, "try"), Checks.fault(3, 0));
            due("rule", Checks.rule(b, "try 1"), i);
            due("tape", b.count(14), 0);
        }
        Checks.tell(b, "try 1");
        due("a seventh", b.rule(), -1);
        due("rules", b.count(5), 6);
        due("its tape stays", b.count(14), 5);
    }

    private static void force() {
        FailBadge b = new FailBadge();
        Checks.rule(b, "try 1");
        Checks.rule(b, "try 2");
        due("force 1", b.force(1), -1);
        due("force 0", b.force(0), 1);
        due("force 2", b.force(2), -2);
        due("force -2", b.force(-2), -2);
        due("in force", b.count(6), 0);
        due("force none", b.force(-1), 0);
        due("in force", b.count(6), -1);
    }
}
