import java.lang.reflect.Method;
import java.lang.reflect.Modifier;
import java.util.Arrays;
import java.util.stream.Collectors;

/** What stands ahead of the terms and behind the promises: one company, followed by hand. */
final class SentencesOfTheWhole {
    // By RULE 0: DAY 0 SCOUT 0 fails at KIND 1, SCOUT 1 at KIND 0; so on DAY 1; on DAY 2 the former
    // fails, for the latter KIND 0 comes off; on DAY 3 both fail; on DAY 4 KIND 0 comes off for the
    // former, KIND 1 for the latter; on DAY 5 both fail at these, SCOUT 1 TRIES nothing any more; for
    // SCOUT 0 KIND 1 comes off on DAY 6, fails on DAY 7; KIND 2 on DAY 8, fails on DAY 9; then nothing.
    private static final String COMPANY = "camp 2 1;calm 3;calm 0;kind 6;kind 10;kind 2;scout;scout;"
            + "can 0 0 4;can 1 1 8;can 1 2 5";
    private static final String RULE = "try hard - skill";
    private static final int MOST_CALLS = 512;

    private final Sentences say;

    SentencesOfTheWhole(Sentences say) {
        this.say = say;
    }

    void all() {
        whatIsTold();
        whatIsDoneByHand();
        howItGoesOn();
        whatTheyCanNow();
        whatWouldBeBest();
        daysThatComeRound();
        whatWasTold();
        drawsAndImages();
        callsOfOneObject();
        face();
        notPromised();
    }

    private static FailBadge company() {
        return Checks.company(COMPANY, RULE);
    }

    private void whatIsTold() {
        say.whatItIs("Badges are for what one can't: a company, told in a language,");
        FailBadge b = new FailBadge();
        say.due("camp", Checks.camp(b, COMPANY), 2);
        say.due("no badge yet", b.count(9), 0);
        say.whatItIs("of how much one learns by failing,");
        say.due("LEARN", b.count(0), 2);
        say.whatItIs("of calm by days that come round,");
        say.due("calms", b.count(2), 2);
        say.due("day 0", b.count(8), 3);
        b.day();
        say.due("day 1", b.count(8), 0);
        b.day();
        say.due("day 2", b.count(8), 3);
        say.whatItIs("of kinds of tests by how hard they are,");
        say.due("kind 0", b.hard(0), 6);
        say.due("kind 1", b.hard(1), 10);
        say.due("kind 2", b.hard(2), 2);
        say.whatItIs("of scouts by what they can;");
        FailBadge c = company();
        say.due("scout 0", c.scout(0, 3), 0b101);
        say.due("scout 1", c.scout(1, 3), 0b110);
    }

    private void whatIsDoneByHand() {
        say.whatItIs("days by hand, on which each scout tries what rules told in a language say, gets"
                + " a badge for what does not come off, and learns, and loses one for what does;");
        FailBadge b = company();
        say.due("day 0", b.day(), 0);
        say.due("scout 0 has kind 1", b.scout(0, 0), 0b010);
        say.due("and learnt it", b.skill(0, 1), 2);
        say.due("scout 1 has kind 0", b.scout(1, 0), 0b001);
        say.due("day 1", b.day(), 0);
        say.due("day 2", b.day(), 0b10);
        say.due("scout 1 has lost it", b.scout(1, 0), 0);
        say.due("and learnt nothing by that", b.skill(1, 0), 4);
        say.whatItIs("tests tried, shammed, taught, badges cut off by hand;");
        FailBadge c = company();
        say.due("comes off", c.attempt(0, 0), 1);
        say.due("does not", c.attempt(0, 1), 0);
        say.due("shammed", c.sham(0, 2), 0b110);
        say.due("taught", c.teach(0, 1, 0), 1);
        say.due("cut off", c.cut(0, 1), 0b100);
        say.whatItIs("acts undone;");
        say.due("cut", c.undo(), 4);
        say.due("it is there again", c.scout(0, 0), 0b110);
        say.due("taught", c.undo(), 3);
        say.due("shammed", c.undo(), 2);
        say.due("failed", c.undo(), 1);
        say.due("came off", c.undo(), 0);
        say.due("nothing was tried", c.scout(0, 2), 0);
        say.due("none can be", c.undo(), -1);
    }

    private void howItGoesOn() {
        FailBadge b = company();
        say.whatItIs("how it goes on,");
        say.due("scout 0 has all", b.ahead(0, 10, 0), 0b111);
        say.due("has learnt", b.ahead(0, 10, 1), 6 + 10 + 2);
        say.due("three came off", b.ahead(0, 10, 2), 3);
        say.due("scout 1 has two", b.ahead(1, 10, 0), 0b011);
        say.whatItIs("who has the whole arm,");
        say.due("scout 0", b.arm(0), 10);
        say.due("scout 1 never", b.arm(1), -2);
        say.whatItIs("when something comes off,");
        say.due("day 2", b.off(0), 2);
        say.due("for scout 1", b.off(1), 1);
    }

    private void whatTheyCanNow() {
        FailBadge b = company();
        say.whatItIs("the fewest scouts who together can all,");
        say.due("two", b.cover(0), 2);
        say.due("both", b.cover(1), 0b11);
        say.whatItIs("the most who can each do something else,");
        say.due("two", b.match(-1), 2);
        say.due("scout 0", b.match(0), 0);
        say.due("scout 1", b.match(1), 1);
        say.whatItIs("whom to trust,");
        say.due("scout 0", b.trust(), 0);
        b.attempt(1, 1);
        say.due("scout 1, for whom something came off", b.trust(), 1);
    }

    private void whatWouldBeBest() {
        FailBadge b = company();
        say.whatItIs("the best row of tries,");
        say.due("two badges", b.row(0, 2, 0), 2);
        say.due("first", b.row(0, 2, 1), 1);
        say.due("then", b.row(0, 2, 2), 0);
        say.whatItIs("the least one must learn by a failure,");
        say.due("in three days", b.leastLearn(3), 4);
        say.whatItIs("the calmest day for a test,");
        say.due("this one", b.calmest(1, 1), 0);
        say.due("none", b.calmest(0, 1), -2);
        say.whatItIs("kinds that had best be left out,");
        say.due("none in two days", b.leftOut(2, 0), 0);
        say.due("all in three days", b.leftOut(3, 1), 0b111);
        say.whatItIs("twos who try one thing each,");
        say.due("one", b.rests(0, 1, 2, 0), 1);
        say.due("scout 0", b.rests(0, 1, 2, 1), 1);
        say.due("scout 1", b.rests(0, 1, 2, 2), 0);
    }

    private void daysThatComeRound() {
        FailBadge b = company();
        say.whatItIs("rings of days,");
        say.due("on day 4 nothing changes", b.ring(0), 4);
        say.due("the next day", b.ring(1), 1);
        b.day();
        say.whatItIs("pence parted by badges,");
        say.due("scout 0", b.pence(7, 0), 4);
        say.due("scout 1", b.pence(7, 1), 3);
        say.whatItIs("shams that cannot be told,");
        FailBadge c = company();
        c.sham(0, 2);
        c.attempt(0, 1);
        say.due("the failure is no sham", c.scout(0, 0), 0b110);
        say.due("this is", c.scout(0, 4), 0b100);
    }

    private void whatWasTold() {
        say.whatItIs("by which rule camps that were told were and where to look next,");
        FailBadge b = company();
        say.due("rule 0, or none", b.ruled(0), 2);
        say.due("behind day 0 scout 1 tells", b.look(0, 0), 1);
        say.due("each by itself", b.look(0, 1), 1);
        b.note(0, 1, 0, 1);
        say.due("one", b.ruled(0), 1);
        say.due("rule 0", b.ruled(1), 0);
    }

    private void drawsAndImages() {
        say.whatItIs("camps of drawn calm;");
        // The DRAWS from x = 0 on are 0 and 21468: CALM of DAY 0 is 8.
        FailBadge b = company();
        say.due("kind 0 comes off for scout 1", b.camps(1, 1, 100, 0), 1);
        say.due("scout 0 fails at kind 1", b.camps(1, 1, 100, 1), 1);
        say.whatItIs("images gone back to.");
        b.image(0);
        b.day();
        b.day();
        say.due("day 2", b.count(7), 2);
        say.due("back on day 0", b.back(0), 0);
        say.due("no badges", b.count(9), 0);
    }

    private void callsOfOneObject() {
        say.whatItIs("An object is used for at most 512 calls after it has been made; what later calls"
                + " answer is free.");
        FailBadge b = new FailBadge();
        String text = "camp 0 0;kind 0;scout";
        b.feed(Checks.four(text, 0), Checks.four(text, 4), Checks.four(text, 8), Checks.four(text, 12),
                Checks.four(text, 16));
        b.feed(Checks.four(text, 20), 0, 0, 0, 0);
        b.end(text.length());
        b.camp();
        for (int call = 5; call < MOST_CALLS; call++) {
            b.day();
        }
        say.due("the 512th call: it came off on each day", b.scout(0, 1), MOST_CALLS - 5);
    }

    private void face() {
        for (String line : say.linesOfFace()) {
            say.face(line);
            if (line.contains("(")) {
                say.due("it is there", isMember(line) ? 1 : 0, 1);
            } else if (line.contains("NONE")) {
                say.due("NONE", FailBadge.NONE, -1);
            } else {
                say.due("the class", Modifier.toString(FailBadge.class.getModifiers())
                        .equals("public final") ? 1 : 0, 1);
            }
        }
    }

    /** Whether a method, or the constructor, is there just as the face has it. */
    private static boolean isMember(String line) {
        String types = line.substring(line.indexOf('(') + 1, line.indexOf(')'))
                .replaceAll("int \\w+", "int").replace(" ", "");
        String head = line.substring(0, line.indexOf('(')).strip();
        if (head.equals("public FailBadge")) {
            return FailBadge.class.getConstructors().length == 1;
        }
        return Arrays.stream(FailBadge.class.getDeclaredMethods()).anyMatch(method ->
                Modifier.toString(method.getModifiers()).equals("public")
                && head.equals("public " + method.getReturnType() + " " + method.getName())
                && types.equals(typesOf(method)));
    }

    private static String typesOf(Method method) {
        return Arrays.stream(method.getParameterTypes()).map(Class::getName)
                .collect(Collectors.joining(","));
    }

    private void notPromised() {
        say.notPromised("How the state is held inside the object is free, as are the speed of each call,"
                + " the text of toString and the behaviour of equals and hashCode.");
        for (String name : new String[] {"toString", "equals", "hashCode"}) {
            say.due("no " + name + " of its own", Arrays.stream(FailBadge.class.getDeclaredMethods())
                    .filter(method -> method.getName().equals(name)).count(), 0);
        }
        say.notPromised("Use of one object from several threads at once is not promised to be safe.");
        // What is of one object alone: two that are used by turns don't touch one another.
        FailBadge one = company();
        FailBadge other = Checks.company("camp 0 0;kind 1;scout");
        for (int i = 0; i < 10; i++) {
            one.day();
            other.day();
            one.ahead(0, 3, 0);
            other.seed(i);
        }
        say.due("scout 0 of one", one.scout(0, 0), 0b111);
        say.due("scout 0 of the other", other.scout(0, 0), 1);
        say.due("x of one", one.count(13), 0);
        say.due("rules of the other", other.count(5), 0);
        say.notPromised("Nothing is promised beyond the answers and state changes described above, and"
                + " nothing about an object after its 512th call.");
        for (int call = 0; call < 10 * MOST_CALLS; call++) {
            one.day();
            one.attempt(call % 2, call % 3);
            one.image(call % 4);
        }
        say.due("no call throws, even then; by hand no DAY comes behind 999", one.count(7), 999);
    }
}
