import java.util.Arrays;

/**
 * A company of scouts who get badges for what they can't do. ../shared/DOC.md says what each call
 * answers; words in capitals (CAMP, RULE, DAY, ..) are that document's.
 */
public final class FailBadge {
    public static final int NONE = -1;

    private static final int NO_SUCH = -2;
    private static final int NOT_ASKED = -3;
    private static final int NO_TWO = -1000;

    private static final int MOST_SCOUTS = 6;
    private static final int MOST_KINDS = 6;
    private static final int MOST_RULES = 6;
    private static final int MOST_IMAGES = 4;
    private static final int LAST_DAY = 999;
    private static final int MOST_PENCE = 9999;

    private final Tape tape = new Tape();
    private final RuleReader ruleReader = new RuleReader();
    private final Rule[] rules = new Rule[MOST_RULES];
    private int ruleCount = 0;
    private final Moment now = new Moment();
    private final Past past = new Past();
    private final Moment[] images = new Moment[MOST_IMAGES];
    private final Present present = new Present();
    private final Foresight foresight = new Foresight();

    public FailBadge() {
    }

    // ---- texts

    public int feed(int a, int b, int c, int d, int e) {
        if (!tape.hasRoomFor(20)) {
            return NONE;
        }
        tape.append(a);
        tape.append(b);
        tape.append(c);
        tape.append(d);
        tape.append(e);
        return tape.length;
    }

    public int end(int n) {
        if (n < 0 || n > tape.length) {
            return NONE;
        }
        tape.length = n;
        return n;
    }

    public int camp() {
        Camp told = new Camp();
        boolean isRight = told.read(tape);
        tape.length = 0;
        if (!isRight) {
            return NO_SUCH - tape.fault;
        }
        now.camp = told;
        now.standing.begin(told);
        now.notes.size = 0;
        past.size = 0;
        return told.scouts;
    }

    public int rule() {
        if (ruleCount >= MOST_RULES) {
            return NONE;
        }
        boolean isRight = ruleReader.read(tape);
        tape.length = 0;
        if (!isRight) {
            return NO_SUCH - tape.fault;
        }
        rules[ruleCount] = ruleReader.made();
        ruleCount++;
        return ruleCount - 1;
    }

    public int force(int rule) {
        if (rule < NONE || rule >= ruleCount) {
            return NO_SUCH;
        }
        int was = now.inForce;
        now.inForce = rule;
        return was;
    }

    // ---- how it is

    public int scout(int scout, int what) {
        if (!now.camp.hasScout(scout)) {
            return NONE;
        }
        Standing standing = now.standing;
        switch (what) {
            case 0:
                return standing.badges[scout];
            case 1:
                return standing.passed[scout];
            case 2:
                return standing.tried[scout];
            case 3:
                return standing.able(now.camp, scout);
            case 4:
                return standing.badges[scout] & standing.able(now.camp, scout);
            default:
                return NONE;
        }
    }

    public int skill(int scout, int kind) {
        return now.camp.hasBoth(scout, kind) ? now.standing.skillOf(scout, kind) : NONE;
    }

    public int hard(int kind) {
        return now.camp.hasKind(kind) ? now.camp.hard[kind] : NONE;
    }

    public int count(int what) {
        switch (what) {
            case 0:
                return now.camp.learn;
            case 1:
                return now.camp.least;
            case 2:
                return now.camp.calms;
            case 3:
                return now.camp.kinds;
            case 4:
                return now.camp.scouts;
            case 5:
                return ruleCount;
            case 6:
                return now.inForce;
            case 7:
                return now.standing.day;
            case 8:
                return now.camp.calmOf(now.standing.day);
            case 9:
                return now.standing.badgesOfAll();
            case 10:
                return now.standing.passedOfAll();
            case 11:
                return now.notes.size;
            case 12:
                return past.size;
            case 13:
                return now.x;
            case 14:
                return tape.length;
            default:
                return NONE;
        }
    }

    // ---- acts

    public int day() {
        if (!now.camp.isTold || now.standing.day >= LAST_DAY) {
            return NONE;
        }
        past.keep(now.standing);
        return foresight.liveOne(now, ruleInForce());
    }

    public int attempt(int scout, int kind) {
        if (!now.camp.hasBoth(scout, kind)) {
            return NONE;
        }
        past.keep(now.standing);
        int calm = now.camp.calmOf(now.standing.day);
        return now.standing.tries(now.camp, scout, kind, calm, now.camp.learn) ? 1 : 0;
    }

    public int sham(int scout, int kind) {
        if (!now.camp.hasBoth(scout, kind)) {
            return NONE;
        }
        int couldDo = now.standing.able(now.camp, scout) & ~now.standing.badges[scout];
        if ((couldDo >> kind & 1) == 0) {
            return NONE;
        }
        past.keep(now.standing);
        now.standing.badges[scout] |= 1 << kind;
        return now.standing.badges[scout];
    }

    public int teach(int scout, int other, int kind) {
        if (!now.camp.hasBoth(scout, kind) || !now.camp.hasScout(other)
                || now.standing.skillOf(scout, kind) <= now.standing.skillOf(other, kind)) {
            return NONE;
        }
        past.keep(now.standing);
        now.standing.learns(other, kind, 1);
        return now.standing.skillOf(other, kind);
    }

    public int cut(int scout, int kind) {
        if (!now.camp.hasBoth(scout, kind) || !now.standing.hasBadge(scout, kind)) {
            return NONE;
        }
        past.keep(now.standing);
        now.standing.badges[scout] &= ~(1 << kind);
        return now.standing.badges[scout];
    }

    public int undo() {
        if (past.size <= 0) {
            return NONE;
        }
        past.giveBack(now.standing);
        return past.size;
    }

    // ---- what is asked of the days to come

    public int ahead(int scout, int n, int what) {
        if (!now.camp.hasScout(scout) || !isWithin(n, 0, 100) || !isWithin(what, 0, 2)) {
            return NONE;
        }
        Standing then = foresight.after(now, ruleInForce(), n);
        if (what == 0) {
            return then.badges[scout];
        }
        return what == 1 ? then.skillsOf(scout) : then.passed[scout];
    }

    public int arm(int scout) {
        return now.camp.hasScout(scout) ? foresight.firstWholeArm(now, ruleInForce(), scout) : NONE;
    }

    public int off(int what) {
        if (!now.camp.isTold || !isWithin(what, 0, 1)) {
            return NONE;
        }
        return foresight.firstOff(now, ruleInForce(), what == 0);
    }

    public int leastLearn(int n) {
        if (!now.camp.isTold || !isWithin(n, 1, 60)) {
            return NONE;
        }
        return foresight.leastToLearn(now, ruleInForce(), n);
    }

    public int leftOut(int n, int what) {
        if (!now.camp.isTold || !isWithin(n, 1, 30) || !isWithin(what, 0, 1)) {
            return NONE;
        }
        int set = foresight.fewestLeftOut(now, ruleInForce(), n);
        return what == 0 ? Integer.bitCount(set) : set;
    }

    public int ring(int what) {
        if (!now.camp.isTold || !isWithin(what, 0, 1)) {
            return NONE;
        }
        return foresight.firstRing(now, ruleInForce(), what == 0);
    }

    public int camps(int m, int n, int p, int what) {
        if (!now.camp.isTold || !isWithin(m, 1, 10) || !isWithin(n, 1, 60)
                || !isWithin(p, 0, 100) || !isWithin(what, 0, 1)) {
            return NONE;
        }
        foresight.drawCamps(now, ruleInForce(), m, n, p);
        return what == 0 ? foresight.drawnOff : foresight.drawnBadges;
    }

    // ---- what is asked of this day, and of single scouts

    public int cover(int what) {
        if (!now.camp.isTold || !isWithin(what, 0, 1)) {
            return NONE;
        }
        int set = present.fewestForAll(now);
        return what == 0 ? Integer.bitCount(set) : set;
    }

    public int match(int what) {
        if (!now.camp.isTold || !isWithin(what, NONE, MOST_SCOUTS - 1)) {
            return NOT_ASKED;
        }
        if (what == NONE) {
            return present.mostMatched(now);
        }
        return now.camp.hasScout(what) ? present.matchOf(now, what) : NO_SUCH;
    }

    public int trust() {
        return now.camp.isTold ? present.trusted(now) : NONE;
    }

    public int pence(int much, int scout) {
        if (!now.camp.hasScout(scout) || !isWithin(much, 0, MOST_PENCE)) {
            return NONE;
        }
        return present.partOf(now, much, scout);
    }

    public int calmest(int scout, int kind) {
        return now.camp.hasBoth(scout, kind) ? present.firstCalmEnough(now, scout, kind) : NONE;
    }

    public int row(int scout, int n, int what) {
        if (!now.camp.hasScout(scout) || !isWithin(n, 1, 4) || !isWithin(what, 0, 4)) {
            return NOT_ASKED;
        }
        if (what > n) {
            return NO_SUCH;
        }
        return present.bestRow(now, scout, n, what);
    }

    public int rests(int one, int other, int n, int what) {
        if (!now.camp.hasScout(one) || !now.camp.hasScout(other) || one == other
                || !isWithin(n, 1, 20) || !isWithin(what, 0, 2)) {
            return NO_TWO;
        }
        int bestOfOne = present.bestToKeepAt(now, one, n);
        int bestOfOther = present.bestToKeepAt(now, other, n);
        if (what == 0) {
            return Integer.bitCount(bestOfOne) * Integer.bitCount(bestOfOther);
        }
        int best = what == 1 ? bestOfOne : bestOfOther;
        return best == 0 ? NO_SUCH : Integer.numberOfTrailingZeros(best);
    }

    // ---- notes and the rules that they allow

    public int note(int n, int scout, int kind, int has) {
        if (n == NONE) {
            now.notes.size = 0;
            return 0;
        }
        if (!isWithin(n, 0, 60) || !now.camp.hasBoth(scout, kind) || !isWithin(has, 0, 1)
                || now.notes.isFull()) {
            return NO_SUCH;
        }
        now.notes.add(n, scout, kind, has);
        return now.notes.size;
    }

    public int ruled(int what) {
        if (!now.camp.isTold || !isWithin(what, 0, 1)) {
            return NOT_ASKED;
        }
        return foresight.allowedByNotes(now, rules, what == 0);
    }

    public int look(int n, int what) {
        if (!now.camp.isTold || !isWithin(n, 0, 60) || !isWithin(what, 0, 1)) {
            return NONE;
        }
        return foresight.bestToLookAt(now, rules, n, what == 0);
    }

    // ---- draws and images

    public int seed(int x) {
        if (x < 0) {
            return NONE;
        }
        int was = now.x;
        now.x = x;
        return was;
    }

    public int image(int k) {
        if (!isWithin(k, 0, MOST_IMAGES - 1)) {
            return NONE;
        }
        if (images[k] == null) {
            images[k] = new Moment();
        }
        images[k].copyFrom(now);
        return now.standing.day;
    }

    public int back(int k) {
        if (!isWithin(k, 0, MOST_IMAGES - 1) || images[k] == null) {
            return NONE;
        }
        now.copyFrom(images[k]);
        past.size = 0;
        return now.standing.day;
    }

    private Rule ruleInForce() {
        return isWithin(now.inForce, 0, ruleCount - 1) ? rules[now.inForce] : null;
    }

    private static boolean isWithin(int number, int least, int most) {
        return number >= least && number <= most;
    }

    /** The bytes that were fed, and the reading of them, one token at a time. */
    private static final class Tape {
        static final int MOST = 400;

        // What the token at hand is: one of these, or else the byte that it consists of.
        static final int END = -1;
        static final int WORD = -2;
        static final int NUMBER = -3;
        static final int AT_MOST = -4;
        static final int AT_LEAST = -5;

        // What is wrong with it.
        static final int STRANGE = 0;
        static final int BAD_NUMBER = 1;
        static final int TOO_DEEP = 2;
        static final int TOO_LONG = 3;
        static final int TOO_MANY = 4;

        private static final int MOST_DIGITS = 5;

        private final int[] bytes = new int[MOST];
        private int length = 0;
        private int from = 0;
        private int to = 0;
        private int sort = END;
        private int number = NONE;
        private int fault = 0;

        boolean hasRoomFor(int more) {
            return length + more <= MOST;
        }

        void append(int four) {
            if (!hasRoomFor(4)) {
                return;
            }
            for (int shift = 24; shift >= 0; shift -= 8) {
                bytes[length] = four >> shift & 255;
                length++;
            }
        }

        void rewind() {
            to = 0;
            fault = 0;
            advance();
        }

        /** The next token is at hand; behind the last one it stays the end. */
        void advance() {
            from = to;
            while (from < length && bytes[from] == ' ') {
                from++;
            }
            to = from;
            if (from >= length) {
                sort = END;
                return;
            }
            int first = bytes[from];
            to++;
            if (first >= 'a' && first <= 'z') {
                sort = WORD;
                while (to < length && bytes[to] >= 'a' && bytes[to] <= 'z') {
                    to++;
                }
            } else if (first >= '0' && first <= '9') {
                sort = NUMBER;
                number = first - '0';
                while (to < length && bytes[to] >= '0' && bytes[to] <= '9') {
                    // Of too many digits no number is made, so that it can't go round.
                    number = to - from < MOST_DIGITS ? number * 10 + bytes[to] - '0' : NONE;
                    to++;
                }
            } else if ((first == '<' || first == '>') && to < length && bytes[to] == '=') {
                sort = first == '<' ? AT_MOST : AT_LEAST;
                to++;
            } else {
                sort = first;
            }
        }

        /** Which of some words, each with a blank behind it, the token is; NONE if none. */
        int among(String words) {
            if (sort != WORD) {
                return NONE;
            }
            int which = 0;
            int at = from;
            boolean isAlike = true;
            for (int i = 0; i < words.length(); i++) {
                char sign = words.charAt(i);
                if (sign != ' ') {
                    isAlike = isAlike && at < to && bytes[at] == sign;
                    at++;
                } else if (isAlike && at == to) {
                    return which;
                } else {
                    which++;
                    at = from;
                    isAlike = true;
                }
            }
            return NONE;
        }

        /** The number at hand, passed over; NONE, and a fault, if it is none from 0 to most. */
        int takeNumber(int most) {
            if (sort != NUMBER) {
                refuse(STRANGE);
                return NONE;
            }
            if (number == NONE || number > most) {
                refuse(BAD_NUMBER);
                return NONE;
            }
            int taken = number;
            advance();
            return taken;
        }

        /** The token at hand is at fault: false, for the reader to hand on. */
        boolean refuse(int why) {
            fault = 1 + 8 * from + why;
            return false;
        }
    }

    /** What the text of a CAMP told. It never changes once it is read, so images share it. */
    private static final class Camp {
        private static final int MOST_CLAUSES = 40;
        private static final int MOST_CALMS = 12;
        private static final int MOST_LEARN = 5;
        private static final int MOST_CALM = 9;
        private static final int MOST_HARD = 30;
        private static final int MOST_SKILL = 20;

        private static final String CLAUSES = "camp calm kind scout can ";
        private static final int CAMP = 0;
        private static final int CALM = 1;
        private static final int KIND = 2;
        private static final int SCOUT = 3;

        private boolean isTold = false;
        private int learn = 0;
        private int least = 0;
        private int calms = 0;
        private int kinds = 0;
        private int scouts = 0;
        private final int[] calm = new int[MOST_CALMS];
        private final int[] hard = new int[MOST_KINDS];
        private final int[] skills = new int[MOST_SCOUTS * MOST_KINDS];

        boolean hasScout(int scout) {
            return scout >= 0 && scout < scouts;
        }

        boolean hasKind(int kind) {
            return kind >= 0 && kind < kinds;
        }

        boolean hasBoth(int scout, int kind) {
            return hasScout(scout) && hasKind(kind);
        }

        int calmOf(int day) {
            return calms <= 0 || day < 0 ? least : calm[day % calms];
        }

        /** Reads the tape; false if it has a fault, and then this CAMP is of no use. */
        boolean read(Tape tape) {
            tape.rewind();
            for (int clause = 0; clause <= MOST_CLAUSES; clause++) {
                int which = tape.among(CLAUSES);
                if (which == NONE) {
                    return tape.refuse(Tape.STRANGE);
                }
                boolean isOutOfPlace = (which == CAMP) != (clause == 0);
                if (clause == MOST_CLAUSES || isOutOfPlace || isFullOf(which)) {
                    return tape.refuse(Tape.TOO_MANY);
                }
                tape.advance();
                if (!readNumbers(which, tape)) {
                    return false;
                }
                if (tape.sort == Tape.END) {
                    isTold = true;
                    return true;
                }
                if (tape.sort != ';') {
                    return tape.refuse(Tape.STRANGE);
                }
                tape.advance();
            }
            return false;
        }

        private boolean isFullOf(int which) {
            switch (which) {
                case CALM:
                    return calms >= MOST_CALMS;
                case KIND:
                    return kinds >= MOST_KINDS;
                case SCOUT:
                    return scouts >= MOST_SCOUTS;
                default:
                    return false;
            }
        }

        private boolean readNumbers(int which, Tape tape) {
            switch (which) {
                case CAMP:
                    learn = tape.takeNumber(MOST_LEARN);
                    if (learn == NONE) {
                        return false;
                    }
                    least = tape.takeNumber(MOST_CALM);
                    return least != NONE;
                case CALM:
                    calm[calms] = tape.takeNumber(MOST_CALM);
                    calms++;
                    return calm[calms - 1] != NONE;
                case KIND:
                    hard[kinds] = tape.takeNumber(MOST_HARD);
                    kinds++;
                    return hard[kinds - 1] != NONE;
                case SCOUT:
                    scouts++;
                    return true;
                default:
                    return readSkill(tape);
            }
        }

        private boolean readSkill(Tape tape) {
            int scout = tape.takeNumber(scouts - 1);
            if (scout == NONE) {
                return false;
            }
            int kind = tape.takeNumber(kinds - 1);
            if (kind == NONE) {
                return false;
            }
            int skill = tape.takeNumber(MOST_SKILL);
            if (skill == NONE) {
                return false;
            }
            skills[scout * MOST_KINDS + kind] = skill;
            return true;
        }
    }

    /**
     * A RULE as a row of codes for a stack: of each CLAUSE the SUM, then the TEST (nothing, if it
     * has none). A code below Rule.WORD_COUNT is a word, one from Rule.NUMBERS on a number.
     */
    private static final class Rule {
        static final int MOST_CLAUSES = 12;
        static final int MOST_STACK = 64;

        static final String WORDS =
                "scout kind hard skill badge badges others calm next passed tried day ";
        static final int SCOUT = 0;
        static final int KIND = 1;
        static final int HARD = 2;
        static final int SKILL = 3;
        static final int BADGE = 4;
        static final int BADGES = 5;
        static final int OTHERS = 6;
        static final int CALM = 7;
        static final int NEXT = 8;
        static final int PASSED = 9;
        static final int TRIED = 10;
        static final int DAY = 11;
        static final int WORD_COUNT = 12;

        static final int ADD = 12;
        static final int SUBTRACT = 13;
        static final int MULTIPLY = 14;
        static final int DIVIDE = 15;
        static final int REST = 16;
        static final int LESS = 17;
        static final int AT_MOST = 18;
        static final int EQUAL = 19;
        static final int AT_LEAST = 20;
        static final int MORE = 21;
        static final int AND = 22;
        static final int OR = 23;
        static final int NOT = 24;
        static final int NUMBERS = 32;

        private final int clauses;
        private final int[] codes;
        private final int[] sums;
        private final int[] tests;

        Rule(int clauses, int[] codes, int[] sums, int[] tests) {
            this.clauses = clauses;
            this.codes = codes;
            this.sums = sums;
            this.tests = tests;
        }

        /** The SUM of the first CLAUSE without a TEST, or whose TEST holds; 0 without. */
        long worth(long[] words, long[] stack) {
            for (int clause = 0; clause < clauses; clause++) {
                int test = tests[clause];
                int behind = sums[clause + 1];
                if (test == behind || result(test, behind, words, stack) != 0) {
                    return result(sums[clause], test, words, stack);
                }
            }
            return 0;
        }

        private long result(int from, int to, long[] words, long[] stack) {
            int size = 0;
            for (int at = from; at < to; at++) {
                int code = codes[at];
                if (code >= NUMBERS || code < WORD_COUNT) {
                    if (size >= stack.length) {
                        return 0;
                    }
                    stack[size] = code >= NUMBERS ? code - NUMBERS : words[code];
                    size++;
                } else if (code == NOT) {
                    if (size < 1) {
                        return 0;
                    }
                    stack[size - 1] = 1 - stack[size - 1];
                } else {
                    if (size < 2) {
                        return 0;
                    }
                    size--;
                    stack[size - 1] = joined(code, stack[size - 1], stack[size]);
                }
            }
            return size < 1 ? 0 : stack[0];
        }

        private static long joined(int code, long a, long b) {
            switch (code) {
                case ADD:
                    return a + b;
                case SUBTRACT:
                    return a - b;
                case MULTIPLY:
                    return a * b;
                case DIVIDE:
                    return b == 0 ? 0 : a / b;
                case REST:
                    return b == 0 ? 0 : a % b;
                case LESS:
                    return a < b ? 1 : 0;
                case AT_MOST:
                    return a <= b ? 1 : 0;
                case EQUAL:
                    return a == b ? 1 : 0;
                case AT_LEAST:
                    return a >= b ? 1 : 0;
                case MORE:
                    return a > b ? 1 : 0;
                case AND:
                    return a & b;
                default:
                    return a | b;
            }
        }
    }

    /** Makes a RULE's codes of a text; its rows are used again for every text. */
    private static final class RuleReader {
        private static final int MOST_DEEP = 10;
        private static final int MOST_COUNTED = 60;

        private static final String TRY = "try ";
        private static final String IF = "if ";
        private static final String NOT = "not ";
        private static final String AND_OR = "and or ";

        private int size = 0;
        private int clauses = 0;
        private int counted = 0;
        // A code is made of a byte of the text at least, so that there is room for all.
        private final int[] codes = new int[Tape.MOST];
        private final int[] sums = new int[Rule.MOST_CLAUSES + 1];
        private final int[] tests = new int[Rule.MOST_CLAUSES];

        Rule made() {
            return new Rule(clauses, Arrays.copyOf(codes, size), sums.clone(), tests.clone());
        }

        /** Reads the tape; false if it has a fault. */
        boolean read(Tape tape) {
            size = 0;
            clauses = 0;
            counted = 0;
            tape.rewind();
            for (int clause = 0; clause <= Rule.MOST_CLAUSES; clause++) {
                if (tape.among(TRY) == NONE) {
                    return tape.refuse(Tape.STRANGE);
                }
                if (clause == Rule.MOST_CLAUSES) {
                    return tape.refuse(Tape.TOO_MANY);
                }
                tape.advance();
                sums[clause] = size;
                if (!readSum(tape)) {
                    return false;
                }
                tests[clause] = size;
                if (tape.among(IF) != NONE) {
                    tape.advance();
                    if (!readTest(tape, 0)) {
                        return false;
                    }
                }
                clauses = clause + 1;
                sums[clauses] = size;
                if (tape.sort == Tape.END) {
                    return true;
                }
                if (tape.sort != ';') {
                    return tape.refuse(Tape.STRANGE);
                }
                tape.advance();
            }
            return false;
        }

        /** FACTS joined by and, and these by or: and binds first. */
        private boolean readTest(Tape tape, int deep) {
            boolean isAnd = false;
            boolean isOr = false;
            for (int facts = 0; facts < Tape.MOST; facts++) {
                if (!readFact(tape, deep)) {
                    return false;
                }
                if (isAnd) {
                    put(Rule.AND);
                }
                int joint = tape.among(AND_OR);
                isAnd = joint == 0;
                if (!isAnd) {
                    if (isOr) {
                        put(Rule.OR);
                    }
                    isOr = joint == 1;
                    if (!isOr) {
                        return true;
                    }
                }
                tape.advance();
            }
            return false;
        }

        private boolean readFact(Tape tape, int deep) {
            boolean isNot = tape.among(NOT) != NONE;
            if (!isNot && tape.sort != '[') {
                return readComparison(tape);
            }
            if (deep >= MOST_DEEP) {
                return tape.refuse(Tape.TOO_DEEP);
            }
            tape.advance();
            if (isNot) {
                boolean isRight = readFact(tape, deep + 1);
                put(Rule.NOT);
                return isRight;
            }
            if (!readTest(tape, deep + 1)) {
                return false;
            }
            if (tape.sort != ']') {
                return tape.refuse(Tape.STRANGE);
            }
            tape.advance();
            return true;
        }

        private boolean readComparison(Tape tape) {
            if (!readSum(tape)) {
                return false;
            }
            int sign = codeOf(tape.sort);
            if (sign < Rule.LESS || sign > Rule.MORE) {
                return tape.refuse(Tape.STRANGE);
            }
            if (counted >= MOST_COUNTED) {
                return tape.refuse(Tape.TOO_LONG);
            }
            counted++;
            tape.advance();
            boolean isRight = readSum(tape);
            put(sign);
            return isRight;
        }

        /** VALUES joined by * / %, and these by + -: the former bind first. */
        private boolean readSum(Tape tape) {
            int times = NONE;
            int plus = NONE;
            for (int values = 0; values < Tape.MOST; values++) {
                if (!readValue(tape)) {
                    return false;
                }
                if (times != NONE) {
                    put(times);
                }
                int sign = codeOf(tape.sort);
                times = sign >= Rule.MULTIPLY && sign <= Rule.REST ? sign : NONE;
                if (times == NONE) {
                    if (plus != NONE) {
                        put(plus);
                    }
                    plus = sign == Rule.ADD || sign == Rule.SUBTRACT ? sign : NONE;
                    if (plus == NONE) {
                        return true;
                    }
                }
                tape.advance();
            }
            return false;
        }

        private boolean readValue(Tape tape) {
            int code = tape.among(Rule.WORDS);
            if (tape.sort == Tape.NUMBER) {
                if (tape.number == NONE) {
                    return tape.refuse(Tape.BAD_NUMBER);
                }
                code = Rule.NUMBERS + tape.number;
            }
            if (code == NONE) {
                return tape.refuse(Tape.STRANGE);
            }
            if (counted >= MOST_COUNTED) {
                return tape.refuse(Tape.TOO_LONG);
            }
            counted++;
            put(code);
            tape.advance();
            return true;
        }

        private void put(int code) {
            if (size < codes.length) {
                codes[size] = code;
                size++;
            }
        }

        private static int codeOf(int sort) {
            switch (sort) {
                case '+':
                    return Rule.ADD;
                case '-':
                    return Rule.SUBTRACT;
                case '*':
                    return Rule.MULTIPLY;
                case '/':
                    return Rule.DIVIDE;
                case '%':
                    return Rule.REST;
                case '<':
                    return Rule.LESS;
                case Tape.AT_MOST:
                    return Rule.AT_MOST;
                case '=':
                    return Rule.EQUAL;
                case Tape.AT_LEAST:
                    return Rule.AT_LEAST;
                case '>':
                    return Rule.MORE;
                default:
                    return NONE;
            }
        }
    }

    /** What changes by ACTS: the DAY, and of each SCOUT the BADGES (as bits), SKILLS and counts. */
    private static final class Standing {
        private static final int MOST_SKILL = 50;

        private int day = 0;
        private final int[] badges = new int[MOST_SCOUTS];
        private final int[] passed = new int[MOST_SCOUTS];
        private final int[] tried = new int[MOST_SCOUTS];
        private final int[] skills = new int[MOST_SCOUTS * MOST_KINDS];

        void begin(Camp camp) {
            day = 0;
            Arrays.fill(badges, 0);
            Arrays.fill(passed, 0);
            Arrays.fill(tried, 0);
            System.arraycopy(camp.skills, 0, skills, 0, skills.length);
        }

        void copyFrom(Standing other) {
            day = other.day;
            System.arraycopy(other.badges, 0, badges, 0, badges.length);
            System.arraycopy(other.passed, 0, passed, 0, passed.length);
            System.arraycopy(other.tried, 0, tried, 0, tried.length);
            System.arraycopy(other.skills, 0, skills, 0, skills.length);
        }

        /** Copies the day and one scout alone: cheaper where no one else matters. */
        void copyScoutFrom(Standing other, int scout) {
            day = other.day;
            badges[scout] = other.badges[scout];
            passed[scout] = other.passed[scout];
            tried[scout] = other.tried[scout];
            int first = scout * MOST_KINDS;
            System.arraycopy(other.skills, first, skills, first, MOST_KINDS);
        }

        int skillOf(int scout, int kind) {
            return skills[scout * MOST_KINDS + kind];
        }

        boolean hasBadge(int scout, int kind) {
            return (badges[scout] >> kind & 1) != 0;
        }

        /** The KINDS that would come off for a SCOUT on this DAY, as bits. */
        int able(Camp camp, int scout) {
            int calm = camp.calmOf(day);
            int bits = 0;
            for (int kind = 0; kind < camp.kinds; kind++) {
                if (skillOf(scout, kind) + calm >= camp.hard[kind]) {
                    bits |= 1 << kind;
                }
            }
            return bits;
        }

        /** A SCOUT TRIES a KIND: whether it comes off. */
        boolean tries(Camp camp, int scout, int kind, int calm, int learn) {
            tried[scout]++;
            if (skillOf(scout, kind) + calm >= camp.hard[kind]) {
                passed[scout]++;
                badges[scout] &= ~(1 << kind);
                return true;
            }
            badges[scout] |= 1 << kind;
            learns(scout, kind, learn);
            return false;
        }

        void learns(int scout, int kind, int more) {
            int at = scout * MOST_KINDS + kind;
            skills[at] = Math.min(MOST_SKILL, skills[at] + more);
        }

        int badgeCount(int scout) {
            return Integer.bitCount(badges[scout]);
        }

        int badgesOfAll() {
            int all = 0;
            for (int scout = 0; scout < MOST_SCOUTS; scout++) {
                all += badgeCount(scout);
            }
            return all;
        }

        int passedOfAll() {
            int all = 0;
            for (int scout = 0; scout < MOST_SCOUTS; scout++) {
                all += passed[scout];
            }
            return all;
        }

        int skillsOf(int scout) {
            int all = 0;
            for (int kind = 0; kind < MOST_KINDS; kind++) {
                all += skillOf(scout, kind);
            }
            return all;
        }

        /** How many other SCOUTS have the BADGE of a KIND. */
        int othersWith(int scout, int kind) {
            int holders = 0;
            for (int other = 0; other < MOST_SCOUTS; other++) {
                holders += badges[other] >> kind & 1;
            }
            return holders - (badges[scout] >> kind & 1);
        }
    }

    /** How all stood ahead of each of the last ACTS; the oldest gives way. */
    private static final class Past {
        private static final int MOST = 20;

        private final Standing[] kept = new Standing[MOST];
        private int last = 0;
        private int size = 0;

        void keep(Standing standing) {
            last = (last + 1) % MOST;
            if (kept[last] == null) {
                kept[last] = new Standing();
            }
            kept[last].copyFrom(standing);
            size = Math.min(MOST, size + 1);
        }

        void giveBack(Standing standing) {
            if (size <= 0 || kept[last] == null) {
                return;
            }
            standing.copyFrom(kept[last]);
            last = (last + MOST - 1) % MOST;
            size--;
        }
    }

    /** What was told of who had a BADGE of what, behind which DAY. */
    private static final class Notes {
        private static final int MOST = 10;

        private int size = 0;
        private final int[] days = new int[MOST];
        private final int[] scouts = new int[MOST];
        private final int[] kinds = new int[MOST];
        private final int[] has = new int[MOST];

        boolean isFull() {
            return size >= MOST;
        }

        void add(int day, int scout, int kind, int hasIt) {
            if (isFull()) {
                return;
            }
            days[size] = day;
            scouts[size] = scout;
            kinds[size] = kind;
            has[size] = hasIt;
            size++;
        }

        void copyFrom(Notes other) {
            size = other.size;
            System.arraycopy(other.days, 0, days, 0, MOST);
            System.arraycopy(other.scouts, 0, scouts, 0, MOST);
            System.arraycopy(other.kinds, 0, kinds, 0, MOST);
            System.arraycopy(other.has, 0, has, 0, MOST);
        }

        /** The last DAY of which anything was told; NONE without any. */
        int lastDay() {
            int latest = NONE;
            for (int i = 0; i < size; i++) {
                latest = Math.max(latest, days[i]);
            }
            return latest;
        }

        /** Whether all that was told of what is behind this DAY is so in the standing. */
        boolean agreeBehind(int day, Standing standing) {
            for (int i = 0; i < size; i++) {
                if (days[i] == day
                        && standing.hasBadge(scouts[i], kinds[i]) != (has[i] == 1)) {
                    return false;
                }
            }
            return true;
        }
    }

    /** All that an IMAGE keeps; how it is now is one, too. */
    private static final class Moment {
        private Camp camp = new Camp();
        private int inForce = NONE;
        private int x = 0;
        private final Standing standing = new Standing();
        private final Notes notes = new Notes();

        void copyFrom(Moment other) {
            camp = other.camp;
            inForce = other.inForce;
            x = other.x;
            standing.copyFrom(other.standing);
            notes.copyFrom(other.notes);
        }
    }

    /** DAYS that go on in a standing of their own, so that nothing else changes by them. */
    private static final class Course {
        private final Standing at = new Standing();
        private final long[] words = new long[Rule.WORD_COUNT];
        private final long[] stack = new long[Rule.MOST_STACK];
        private Camp camp = new Camp();
        private Rule rule = null;
        private int learn = 0;
        private int leftOut = 0;
        private int drawnCalm = NONE;

        void startFrom(Standing standing, Camp ofCamp, Rule byRule) {
            at.copyFrom(standing);
            setUp(ofCamp, byRule);
        }

        void startAsTold(Camp ofCamp, Rule byRule) {
            at.begin(ofCamp);
            setUp(ofCamp, byRule);
        }

        private void setUp(Camp ofCamp, Rule byRule) {
            camp = ofCamp;
            rule = byRule;
            learn = ofCamp.learn;
            leftOut = 0;
            drawnCalm = NONE;
        }

        /** A DAY: for whom something comes off on it, as bits. */
        int live() {
            int calm = drawnCalm == NONE ? camp.calmOf(at.day) : drawnCalm;
            int off = 0;
            for (int scout = 0; scout < camp.scouts; scout++) {
                int kind = rule == null ? hardestWithoutBadge(scout) : worthiest(scout, calm);
                if (kind != NONE && at.tries(camp, scout, kind, calm, learn)) {
                    off |= 1 << scout;
                }
            }
            at.day++;
            return off;
        }

        void liveFor(int days) {
            for (int i = 0; i < days; i++) {
                live();
            }
        }

        private boolean isLeftOut(int kind) {
            return (leftOut >> kind & 1) != 0;
        }

        private int hardestWithoutBadge(int scout) {
            int hardest = NONE;
            for (int kind = 0; kind < camp.kinds; kind++) {
                if (!isLeftOut(kind) && !at.hasBadge(scout, kind)
                        && (hardest == NONE || camp.hard[kind] > camp.hard[hardest])) {
                    hardest = kind;
                }
            }
            return hardest;
        }

        private int worthiest(int scout, int calm) {
            tellScout(scout, calm);
            int best = NONE;
            long most = 0;
            for (int kind = 0; kind < camp.kinds; kind++) {
                if (isLeftOut(kind)) {
                    continue;
                }
                tellKind(scout, kind);
                long worth = rule.worth(words, stack);
                if (worth > most) {
                    most = worth;
                    best = kind;
                }
            }
            return best;
        }

        private void tellScout(int scout, int calm) {
            words[Rule.SCOUT] = scout;
            words[Rule.BADGES] = at.badgeCount(scout);
            words[Rule.CALM] = calm;
            words[Rule.NEXT] = camp.calmOf(at.day + 1);
            words[Rule.PASSED] = at.passed[scout];
            words[Rule.TRIED] = at.tried[scout];
            words[Rule.DAY] = at.day;
        }

        private void tellKind(int scout, int kind) {
            words[Rule.KIND] = kind;
            words[Rule.HARD] = camp.hard[kind];
            words[Rule.SKILL] = at.skillOf(scout, kind);
            words[Rule.BADGE] = at.hasBadge(scout, kind) ? 1 : 0;
            words[Rule.OTHERS] = at.othersWith(scout, kind);
        }
    }

    /** Answers what needs no one else's DAYS: this DAY, or single SCOUTS on the next ones. */
    private static final class Present {
        private static final int CALMEST_DAYS = 60;
        private static final int MOST_ROW = 4;
        private static final int SETS = 1 << MOST_KINDS;

        private final int[] able = new int[MOST_SCOUTS];
        // Of the SCOUTS from one on, and the KINDS that are taken: how many can be matched.
        private final int[] matched = new int[(MOST_SCOUTS + 1) * SETS];
        private final Standing trial = new Standing();
        private final int[] chosen = new int[MOST_ROW];

        private void findAble(Moment now) {
            for (int scout = 0; scout < now.camp.scouts; scout++) {
                able[scout] = now.standing.able(now.camp, scout);
            }
        }

        /** COVER: the set of SCOUTS. */
        int fewestForAll(Moment now) {
            findAble(now);
            int everyone = (1 << now.camp.scouts) - 1;
            int goal = ableTogether(everyone);
            int best = everyone;
            for (int set = 0; set < everyone; set++) {
                if (ableTogether(set) == goal && Integer.bitCount(set) < Integer.bitCount(best)) {
                    best = set;
                }
            }
            return best;
        }

        private int ableTogether(int set) {
            int together = 0;
            for (int scout = 0; scout < MOST_SCOUTS; scout++) {
                if ((set >> scout & 1) != 0) {
                    together |= able[scout];
                }
            }
            return together;
        }

        private void fillMatched(Moment now) {
            findAble(now);
            int scouts = now.camp.scouts;
            Arrays.fill(matched, 0);
            for (int scout = scouts - 1; scout >= 0; scout--) {
                for (int taken = 0; taken < SETS; taken++) {
                    matched[scout * SETS + taken] = mostFrom(scout, taken);
                }
            }
        }

        private int mostFrom(int scout, int taken) {
            int behind = (scout + 1) * SETS;
            int most = matched[behind + taken];
            int free = able[scout] & ~taken;
            for (int kind = 0; kind < MOST_KINDS; kind++) {
                if ((free >> kind & 1) != 0) {
                    most = Math.max(most, 1 + matched[behind + (taken | 1 << kind)]);
                }
            }
            return most;
        }

        int mostMatched(Moment now) {
            fillMatched(now);
            return matched[0];
        }

        /** MATCH: the KIND for a SCOUT. */
        int matchOf(Moment now, int wanted) {
            fillMatched(now);
            int taken = 0;
            for (int scout = 0; scout < wanted; scout++) {
                int kind = firstChoice(scout, taken);
                if (kind != NONE) {
                    taken |= 1 << kind;
                }
            }
            return firstChoice(wanted, taken);
        }

        /** The first choice of a SCOUT, nothing ahead of KIND 0, by which as many are matched. */
        private int firstChoice(int scout, int taken) {
            int behind = (scout + 1) * SETS;
            int most = matched[scout * SETS + taken];
            if (matched[behind + taken] == most) {
                return NONE;
            }
            int free = able[scout] & ~taken;
            for (int kind = 0; kind < MOST_KINDS; kind++) {
                if ((free >> kind & 1) != 0 && 1 + matched[behind + (taken | 1 << kind)] == most) {
                    return kind;
                }
            }
            return NONE;
        }

        int trusted(Moment now) {
            int best = NO_SUCH;
            for (int scout = 0; scout < now.camp.scouts; scout++) {
                if (best == NO_SUCH || isTrustedMore(now.standing, scout, best)) {
                    best = scout;
                }
            }
            return best;
        }

        private static boolean isTrustedMore(Standing standing, int one, int other) {
            int ofOne = standing.badgeCount(one);
            int ofOther = standing.badgeCount(other);
            return ofOne < ofOther
                    || ofOne == ofOther && standing.passed[one] > standing.passed[other];
        }

        int partOf(Moment now, int much, int scout) {
            int all = now.standing.badgesOfAll();
            if (all == 0) {
                return 0;
            }
            int lost = much * now.standing.badgeCount(scout) % all;
            int left = much;
            int served = 0;
            for (int other = 0; other < now.camp.scouts; other++) {
                int share = much * now.standing.badgeCount(other);
                left -= share / all;
                if (share % all > lost || share % all == lost && other < scout) {
                    served++;
                }
            }
            return much * now.standing.badgeCount(scout) / all + (served < left ? 1 : 0);
        }

        int firstCalmEnough(Moment now, int scout, int kind) {
            int skill = now.standing.skillOf(scout, kind);
            int today = now.standing.day;
            for (int day = today; day < today + CALMEST_DAYS; day++) {
                if (skill + now.camp.calmOf(day) >= now.camp.hard[kind]) {
                    return day;
                }
            }
            return NO_SUCH;
        }

        /**
         * ROW, what 0: how many BADGES, else the KIND on that DAY. What others do on these DAYS
         * touches no SKILL, BADGE or CALM of this SCOUT, so that it need not be lived.
         */
        int bestRow(Moment now, int scout, int n, int what) {
            int choices = now.camp.kinds + 1;
            int rows = 1;
            for (int i = 0; i < n; i++) {
                rows *= choices;
            }
            int most = NONE;
            int best = 0;
            for (int row = 0; row < rows; row++) {
                int badges = badgesBy(now, scout, n, row);
                if (badges > most) {
                    most = badges;
                    best = row;
                }
            }
            if (what == 0) {
                return most;
            }
            badgesBy(now, scout, n, best);
            return chosen[what - 1];
        }

        /** BADGES by a row, told as a number whose highest digit is what is chosen first. */
        private int badgesBy(Moment now, int scout, int n, int row) {
            Camp camp = now.camp;
            int choices = camp.kinds + 1;
            for (int i = n - 1, rest = row; i >= 0; i--, rest /= choices) {
                chosen[i] = rest % choices - 1;
            }
            trial.copyScoutFrom(now.standing, scout);
            for (int i = 0; i < n; i++) {
                if (chosen[i] != NONE) {
                    trial.tries(camp, scout, chosen[i], camp.calmOf(trial.day), camp.learn);
                }
                trial.day++;
            }
            return trial.badgeCount(scout);
        }

        /**
         * RESTS: the KINDS, as bits, by which a SCOUT who always TRIES the same has most. It does
         * not hang on what the other one TRIES, so that all twos of such KINDS are RESTS.
         */
        int bestToKeepAt(Moment now, int scout, int n) {
            int most = 0;
            int best = 0;
            for (int kind = 0; kind < now.camp.kinds; kind++) {
                int gain = gainBy(now, scout, kind, n);
                if (best == 0 || gain > most) {
                    most = gain;
                    best = 1 << kind;
                } else if (gain == most) {
                    best |= 1 << kind;
                }
            }
            return best;
        }

        private int gainBy(Moment now, int scout, int kind, int n) {
            trial.copyScoutFrom(now.standing, scout);
            int off = 0;
            for (int i = 0; i < n; i++) {
                int calm = now.camp.calmOf(trial.day);
                if (trial.tries(now.camp, scout, kind, calm, now.camp.learn)) {
                    off++;
                }
                trial.day++;
            }
            return trial.badgeCount(scout) - off;
        }
    }

    /** Answers what the DAYS to come must be lived for. */
    private static final class Foresight {
        private static final int FAR_DAYS = 200;
        private static final int RING_DAYS = 60;
        private static final int MOST_LEARN = 9;

        private final Course course = new Course();
        private final long[] trace = new long[(RING_DAYS + 1) * MOST_SCOUTS];
        private final int[] seen = new int[(MOST_RULES + 1) * MOST_SCOUTS];
        private int drawnOff = 0;
        private int drawnBadges = 0;

        private void start(Moment now, Rule rule) {
            course.startFrom(now.standing, now.camp, rule);
        }

        /** A DAY by hand: for whom something comes off on it. */
        int liveOne(Moment now, Rule rule) {
            start(now, rule);
            int off = course.live();
            now.standing.copyFrom(course.at);
            return off;
        }

        Standing after(Moment now, Rule rule, int n) {
            start(now, rule);
            course.liveFor(n);
            return course.at;
        }

        int firstWholeArm(Moment now, Rule rule, int scout) {
            int whole = (1 << now.camp.kinds) - 1;
            start(now, rule);
            for (int i = 0; i < FAR_DAYS; i++) {
                if (course.at.badges[scout] == whole) {
                    return course.at.day;
                }
                course.live();
            }
            return NO_SUCH;
        }

        int firstOff(Moment now, Rule rule, boolean isDayAsked) {
            start(now, rule);
            for (int i = 0; i < FAR_DAYS; i++) {
                int off = course.live();
                if (off != 0) {
                    return isDayAsked ? course.at.day - 1 : Integer.numberOfTrailingZeros(off);
                }
            }
            return NO_SUCH;
        }

        int leastToLearn(Moment now, Rule rule, int n) {
            for (int learn = 0; learn <= MOST_LEARN; learn++) {
                start(now, rule);
                course.learn = learn;
                int waiting = (1 << now.camp.scouts) - 1;
                for (int i = 0; i < n && waiting != 0; i++) {
                    waiting &= ~course.live();
                }
                if (waiting == 0) {
                    return learn;
                }
            }
            return NO_SUCH;
        }

        /** LEFT OUT: the set of KINDS; with all of them left out it is quiet for sure. */
        int fewestLeftOut(Moment now, Rule rule, int n) {
            int all = (1 << now.camp.kinds) - 1;
            for (int size = 0; size < now.camp.kinds; size++) {
                for (int set = 0; set < all; set++) {
                    if (Integer.bitCount(set) == size && isQuiet(now, rule, n, set)) {
                        return set;
                    }
                }
            }
            return all;
        }

        private boolean isQuiet(Moment now, Rule rule, int n, int leftOut) {
            start(now, rule);
            course.leftOut = leftOut;
            for (int i = 0; i < n; i++) {
                if (course.live() != 0) {
                    return false;
                }
            }
            return true;
        }

        int firstRing(Moment now, Rule rule, boolean isDayAsked) {
            start(now, rule);
            for (int i = 0; i <= RING_DAYS; i++) {
                traceDay(i);
                course.live();
            }
            for (int first = 0; first < RING_DAYS; first++) {
                for (int later = first + 1; later <= RING_DAYS; later++) {
                    if (isSameTrace(first, later)) {
                        return isDayAsked ? now.standing.day + first : later - first;
                    }
                }
            }
            return NO_SUCH;
        }

        /** BADGES are 6 bits and no SKILL is above 50, so that a SCOUT's fit into one long. */
        private void traceDay(int i) {
            for (int scout = 0; scout < MOST_SCOUTS; scout++) {
                long all = course.at.badges[scout];
                for (int kind = 0; kind < MOST_KINDS; kind++) {
                    all = all << 6 | course.at.skillOf(scout, kind);
                }
                trace[i * MOST_SCOUTS + scout] = all;
            }
        }

        private boolean isSameTrace(int first, int later) {
            for (int scout = 0; scout < MOST_SCOUTS; scout++) {
                if (trace[first * MOST_SCOUTS + scout] != trace[later * MOST_SCOUTS + scout]) {
                    return false;
                }
            }
            return true;
        }

        /** CAMPS: the answers are drawnOff and drawnBadges then. */
        void drawCamps(Moment now, Rule rule, int m, int n, int p) {
            drawnOff = 0;
            drawnBadges = 0;
            long x = now.x;
            for (int i = 0; i < m; i++) {
                start(now, rule);
                for (int day = 0; day < n; day++) {
                    x = stepped(x);
                    course.drawnCalm = NONE;
                    if (drawOf(x) % 100 < p) {
                        x = stepped(x);
                        course.drawnCalm = drawOf(x) % 10;
                    }
                    drawnOff += Integer.bitCount(course.live());
                }
                drawnBadges += course.at.badgesOfAll();
            }
        }

        private static long stepped(long x) {
            return (x * 1103515245L + 12345L) % 2147483648L;
        }

        private static int drawOf(long x) {
            return (int) (x / 65536);
        }

        /** RULED: how many, or the first. */
        int allowedByNotes(Moment now, Rule[] rules, boolean isNumberAsked) {
            int number = 0;
            int first = NO_SUCH;
            for (int which = NONE; which < rules.length; which++) {
                if (isAllowed(now, rules, which)) {
                    first = number == 0 ? which : first;
                    number++;
                }
            }
            return isNumberAsked ? number : first;
        }

        /** Whether there is such a RULE (NONE: none), by which all NOTES are so. */
        private boolean isAllowed(Moment now, Rule[] rules, int which) {
            if (which >= 0 && rules[which] == null) {
                return false;
            }
            course.startAsTold(now.camp, which < 0 ? null : rules[which]);
            int last = now.notes.lastDay();
            for (int day = 0; day <= last; day++) {
                course.live();
                if (!now.notes.agreeBehind(day, course.at)) {
                    return false;
                }
            }
            return true;
        }

        /** LOOK: the SCOUT, or how many; behind DAY n, which is the first if n is 0. */
        int bestToLookAt(Moment now, Rule[] rules, int n, boolean isScoutAsked) {
            int number = 0;
            for (int which = NONE; which < rules.length; which++) {
                if (isAllowed(now, rules, which)) {
                    course.startAsTold(now.camp, which < 0 ? null : rules[which]);
                    course.liveFor(n + 1);
                    System.arraycopy(course.at.badges, 0, seen, number * MOST_SCOUTS, MOST_SCOUTS);
                    number++;
                }
            }
            int best = NO_SUCH;
            int fewest = NO_SUCH;
            for (int scout = 0; scout < now.camp.scouts && number > 0; scout++) {
                int alike = mostAlike(scout, number);
                if (best == NO_SUCH || alike < fewest) {
                    best = scout;
                    fewest = alike;
                }
            }
            return isScoutAsked ? best : fewest;
        }

        private int mostAlike(int scout, int number) {
            int most = 0;
            for (int one = 0; one < number; one++) {
                int alike = 0;
                for (int other = 0; other < number; other++) {
                    if (seen[one * MOST_SCOUTS + scout] == seen[other * MOST_SCOUTS + scout]) {
                        alike++;
                    }
                }
                most = Math.max(most, alike);
            }
            return most;
        }
    }
}
