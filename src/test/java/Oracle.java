import java.util.ArrayList;
import java.util.Arrays;
import java.util.Collections;
import java.util.HashMap;
import java.util.LinkedList;
import java.util.List;
import java.util.Map;
import java.util.TreeMap;

/**
 * The document once more, as plainly as can be and without a thought for speed: everything that is
 * asked is lived and counted out. OracleTest holds FailBadge against it.
 */
final class Oracle {
    static final class Fault extends RuntimeException {
        final int number;

        Fault(int place, int code) {
            super(null, null, false, false);
            number = 1 + 8 * place + code;
        }
    }

    interface Sum {
        long of(Map<String, Long> words);
    }

    interface Test {
        boolean of(Map<String, Long> words);
    }

    static final class Clause {
        Sum sum;
        Test test;
    }

    static final class Told {
        int learn;
        int least;
        List<Integer> calms = new ArrayList<>();
        List<Integer> hards = new ArrayList<>();
        int scouts;
        Map<Integer, Integer> skills = new HashMap<>();

        int calm(int day) {
            return calms.isEmpty() ? least : calms.get(day % calms.size());
        }
    }

    static final class State {
        int day;
        boolean[][] badge = new boolean[6][6];
        int[][] skill = new int[6][6];
        int[] passed = new int[6];
        int[] tried = new int[6];

        State copy() {
            State s = new State();
            s.day = day;
            for (int i = 0; i < 6; i++) {
                s.badge[i] = badge[i].clone();
                s.skill[i] = skill[i].clone();
            }
            s.passed = passed.clone();
            s.tried = tried.clone();
            return s;
        }

        int bits(int scout) {
            int b = 0;
            for (int k = 0; k < 6; k++) {
                b += badge[scout][k] ? 1 << k : 0;
            }
            return b;
        }

        int badges() {
            int n = 0;
            for (int s = 0; s < 6; s++) {
                n += Integer.bitCount(bits(s));
            }
            return n;
        }
    }

    static final class Note {
        int n;
        int scout;
        int kind;
        int has;
    }

    static final class Image {
        Told told;
        State state;
        int force;
        int x;
        List<Note> notes;
    }

    /** How DAYS differ from plain ones. */
    static final class How {
        int learn = -1;
        int banned = 0;
        int calm = -1;
        Map<Integer, Integer> forced = new HashMap<>();
    }

    StringBuilder tape = new StringBuilder();
    Told told = null;
    State state = new State();
    List<List<Clause>> rules = new ArrayList<>();
    int force = -1;
    int x = 0;
    List<Note> notes = new ArrayList<>();
    LinkedList<State> past = new LinkedList<>();
    Image[] images = new Image[4];

    // ---- reading

    private String text;
    private int at;
    private int counted;

    private void blanks() {
        while (at < text.length() && text.charAt(at) == ' ') {
            at++;
        }
    }

    private String peekWord() {
        blanks();
        int to = at;
        while (to < text.length() && "abcdefghijklmnopqrstuvwxyz".indexOf(text.charAt(to)) >= 0) {
            to++;
        }
        return text.substring(at, to);
    }

    private char peek() {
        blanks();
        return at < text.length() ? text.charAt(at) : (char) 1000;
    }

    private String digits() {
        blanks();
        int to = at;
        while (to < text.length() && "0123456789".indexOf(text.charAt(to)) >= 0) {
            to++;
        }
        return text.substring(at, to);
    }

    private int number(int least, int most) {
        String d = digits();
        if (d.isEmpty()) {
            throw new Fault(at, 0);
        }
        if (d.length() > 5) {
            throw new Fault(at, 1);
        }
        int n = Integer.parseInt(d);
        if (n < least || n > most) {
            throw new Fault(at, 1);
        }
        at += d.length();
        return n;
    }

    private boolean goesOn() {
        if (peek() == 1000) {
            return false;
        }
        if (peek() != ';') {
            throw new Fault(at, 0);
        }
        at++;
        return true;
    }

    private Told readCamp() {
        text = tape.toString();
        at = 0;
        Told t = new Told();
        int clauses = 0;
        do {
            String w = peekWord();
            if (!List.of("camp", "calm", "kind", "scout", "can").contains(w)) {
                throw new Fault(at, 0);
            }
            clauses++;
            if (clauses > 40 || w.equals("camp") && clauses > 1 || !w.equals("camp") && clauses == 1
                    || w.equals("calm") && t.calms.size() == 12
                    || w.equals("kind") && t.hards.size() == 6
                    || w.equals("scout") && t.scouts == 6) {
                throw new Fault(at, 4);
            }
            at += w.length();
            if (w.equals("camp")) {
                t.learn = number(0, 5);
                t.least = number(0, 9);
            } else if (w.equals("calm")) {
                t.calms.add(number(0, 9));
            } else if (w.equals("kind")) {
                t.hards.add(number(0, 30));
            } else if (w.equals("scout")) {
                t.scouts++;
            } else {
                int s = number(0, t.scouts - 1);
                int k = number(0, t.hards.size() - 1);
                t.skills.put(10 * s + k, number(0, 20));
            }
        } while (goesOn());
        return t;
    }

    private List<Clause> readRule() {
        text = tape.toString();
        at = 0;
        counted = 0;
        List<Clause> all = new ArrayList<>();
        do {
            if (!peekWord().equals("try")) {
                throw new Fault(at, 0);
            }
            if (all.size() == 12) {
                throw new Fault(at, 4);
            }
            at += 3;
            Clause c = new Clause();
            c.sum = sum();
            if (peekWord().equals("if")) {
                at += 2;
                c.test = test(0);
            }
            all.add(c);
        } while (goesOn());
        return all;
    }

    private Test test(int deep) {
        Test a = part(deep);
        if (!peekWord().equals("or")) {
            return a;
        }
        at += 2;
        Test b = test(deep);
        return w -> a.of(w) || b.of(w);
    }

    private Test part(int deep) {
        Test a = fact(deep);
        if (!peekWord().equals("and")) {
            return a;
        }
        at += 3;
        Test b = part(deep);
        return w -> a.of(w) && b.of(w);
    }

    private Test fact(int deep) {
        if (peekWord().equals("not")) {
            if (deep == 10) {
                throw new Fault(at, 2);
            }
            at += 3;
            Test a = fact(deep + 1);
            return w -> !a.of(w);
        }
        if (peek() == '[') {
            if (deep == 10) {
                throw new Fault(at, 2);
            }
            at++;
            Test a = test(deep + 1);
            if (peek() != ']') {
                throw new Fault(at, 0);
            }
            at++;
            return a;
        }
        Sum a = sum();
        peek();
        int place = at;
        String sign = "";
        for (String s : List.of("<=", ">=", "<", ">", "=")) {
            if (sign.isEmpty() && text.startsWith(s, at)) {
                sign = s;
            }
        }
        if (sign.isEmpty()) {
            throw new Fault(place, 0);
        }
        if (++counted > 60) {
            throw new Fault(place, 3);
        }
        at += sign.length();
        Sum b = sum();
        String how = sign;
        return w -> {
            long c = Long.compare(a.of(w), b.of(w));
            return c == 0 ? how.contains("=") : c < 0 ? how.contains("<") : how.contains(">");
        };
    }

    private Sum sum() {
        Sum all = term();
        while (peek() == '+' || peek() == '-') {
            boolean more = text.charAt(at++) == '+';
            Sum a = all;
            Sum b = term();
            all = more ? w -> a.of(w) + b.of(w) : w -> a.of(w) - b.of(w);
        }
        return all;
    }

    private Sum term() {
        Sum all = value();
        while (peek() == '*' || peek() == '/' || peek() == '%') {
            char c = text.charAt(at++);
            Sum a = all;
            Sum b = value();
            all = w -> {
                long y = b.of(w);
                if (c == '*') {
                    return a.of(w) * y;
                }
                return y == 0 ? 0 : c == '/' ? a.of(w) / y : a.of(w) % y;
            };
        }
        return all;
    }

    private Sum value() {
        String d = digits();
        if (!d.isEmpty()) {
            if (d.length() > 5) {
                throw new Fault(at, 1);
            }
            if (++counted > 60) {
                throw new Fault(at, 3);
            }
            at += d.length();
            long n = Long.parseLong(d);
            return w -> n;
        }
        String word = peekWord();
        if (!Arrays.asList("scout", "kind", "hard", "skill", "badge", "badges", "others", "calm",
                "next", "passed", "tried", "day").contains(word)) {
            throw new Fault(at, 0);
        }
        if (++counted > 60) {
            throw new Fault(at, 3);
        }
        at += word.length();
        return w -> w.get(word);
    }

    // ---- days

    private boolean comesOff(State s, int scout, int kind, int calm) {
        return s.skill[scout][kind] + calm >= told.hards.get(kind);
    }

    private boolean tryIt(State s, int scout, int kind, int calm, int learn) {
        s.tried[scout]++;
        if (comesOff(s, scout, kind, calm)) {
            s.passed[scout]++;
            s.badge[scout][kind] = false;
            return true;
        }
        s.badge[scout][kind] = true;
        s.skill[scout][kind] = Math.min(50, s.skill[scout][kind] + learn);
        return false;
    }

    private int choice(State s, int scout, List<Clause> rule, int calm, int banned) {
        TreeMap<Long, Integer> worths = new TreeMap<>();
        for (int k = 0; k < told.hards.size(); k++) {
            if ((banned >> k & 1) == 1) {
                continue;
            }
            if (rule == null) {
                if (!s.badge[scout][k]) {
                    worths.putIfAbsent((long) told.hards.get(k), k);
                }
                continue;
            }
            Map<String, Long> w = new HashMap<>();
            w.put("scout", (long) scout);
            w.put("kind", (long) k);
            w.put("hard", (long) told.hards.get(k));
            w.put("skill", (long) s.skill[scout][k]);
            w.put("badge", s.badge[scout][k] ? 1L : 0L);
            w.put("badges", (long) Integer.bitCount(s.bits(scout)));
            long others = 0;
            for (int o = 0; o < told.scouts; o++) {
                others += o != scout && s.badge[o][k] ? 1 : 0;
            }
            w.put("others", others);
            w.put("calm", (long) calm);
            w.put("next", (long) told.calm(s.day + 1));
            w.put("passed", (long) s.passed[scout]);
            w.put("tried", (long) s.tried[scout]);
            w.put("day", (long) s.day);
            for (Clause c : rule) {
                if (c.test == null || c.test.of(w)) {
                    if (c.sum.of(w) > 0) {
                        worths.putIfAbsent(c.sum.of(w), k);
                    }
                    break;
                }
            }
        }
        return worths.isEmpty() ? -1 : worths.lastEntry().getValue();
    }

    private int live(State s, List<Clause> rule, How how) {
        int calm = how.calm >= 0 ? how.calm : told.calm(s.day);
        int off = 0;
        for (int i = 0; i < told.scouts; i++) {
            int k = how.forced.containsKey(i) ? how.forced.get(i)
                    : choice(s, i, rule, calm, how.banned);
            if (k >= 0 && tryIt(s, i, k, calm, how.learn >= 0 ? how.learn : told.learn)) {
                off += 1 << i;
            }
        }
        s.day++;
        return off;
    }

    private List<Clause> inForce() {
        return force < 0 ? null : rules.get(force);
    }

    private boolean isScout(int s) {
        return told != null && s >= 0 && s < told.scouts;
    }

    private boolean isKind(int k) {
        return told != null && k >= 0 && k < told.hards.size();
    }

    private int calmNow() {
        return told.calm(state.day);
    }

    private int can(int scout) {
        int bits = 0;
        for (int k = 0; k < told.hards.size(); k++) {
            bits += comesOff(state, scout, k, calmNow()) ? 1 << k : 0;
        }
        return bits;
    }

    private State begin() {
        State s = new State();
        told.skills.forEach((both, skill) -> s.skill[both / 10][both % 10] = skill);
        return s;
    }

    private void keep() {
        past.addLast(state.copy());
        if (past.size() > 20) {
            past.removeFirst();
        }
    }

    // ---- the face

    int feed(int a, int b, int c, int d, int e) {
        if (tape.length() > 380) {
            return -1;
        }
        for (int n : new int[] {a, b, c, d, e}) {
            tape.append((char) (n >>> 24)).append((char) (n >>> 16 & 255))
                    .append((char) (n >>> 8 & 255)).append((char) (n & 255));
        }
        return tape.length();
    }

    int end(int n) {
        if (n < 0 || n > tape.length()) {
            return -1;
        }
        tape.setLength(n);
        return n;
    }

    int camp() {
        try {
            Told t = readCamp();
            told = t;
            state = begin();
            notes = new ArrayList<>();
            past.clear();
            return t.scouts;
        } catch (Fault f) {
            return -2 - f.number;
        } finally {
            tape.setLength(0);
        }
    }

    int rule() {
        if (rules.size() == 6) {
            return -1;
        }
        try {
            rules.add(readRule());
            return rules.size() - 1;
        } catch (Fault f) {
            return -2 - f.number;
        } finally {
            tape.setLength(0);
        }
    }

    int force(int rule) {
        if (rule < -1 || rule >= rules.size()) {
            return -2;
        }
        int was = force;
        force = rule;
        return was;
    }

    int scout(int s, int what) {
        if (!isScout(s)) {
            return -1;
        }
        switch (what) {
            case 0: return state.bits(s);
            case 1: return state.passed[s];
            case 2: return state.tried[s];
            case 3: return can(s);
            case 4: return can(s) & state.bits(s);
            default: return -1;
        }
    }

    int skill(int s, int k) {
        return isScout(s) && isKind(k) ? state.skill[s][k] : -1;
    }

    int hard(int k) {
        return isKind(k) ? told.hards.get(k) : -1;
    }

    int day() {
        if (told == null || state.day == 999) {
            return -1;
        }
        keep();
        return live(state, inForce(), new How());
    }

    int attempt(int s, int k) {
        if (!isScout(s) || !isKind(k)) {
            return -1;
        }
        keep();
        return tryIt(state, s, k, calmNow(), told.learn) ? 1 : 0;
    }

    int sham(int s, int k) {
        if (!isScout(s) || !isKind(k) || !comesOff(state, s, k, calmNow()) || state.badge[s][k]) {
            return -1;
        }
        keep();
        state.badge[s][k] = true;
        return state.bits(s);
    }

    int teach(int s, int o, int k) {
        if (!isScout(s) || !isScout(o) || !isKind(k) || state.skill[s][k] <= state.skill[o][k]) {
            return -1;
        }
        keep();
        return ++state.skill[o][k];
    }

    int cut(int s, int k) {
        if (!isScout(s) || !isKind(k) || !state.badge[s][k]) {
            return -1;
        }
        keep();
        state.badge[s][k] = false;
        return state.bits(s);
    }

    int undo() {
        if (past.isEmpty()) {
            return -1;
        }
        state = past.removeLast();
        return past.size();
    }

    int ahead(int s, int n, int what) {
        if (!isScout(s) || n < 0 || n > 100 || what < 0 || what > 2) {
            return -1;
        }
        State a = state.copy();
        for (int i = 0; i < n; i++) {
            live(a, inForce(), new How());
        }
        return what == 0 ? a.bits(s) : what == 1 ? Arrays.stream(a.skill[s]).sum() : a.passed[s];
    }

    int arm(int s) {
        if (!isScout(s)) {
            return -1;
        }
        State a = state.copy();
        for (int i = 0; i < 200; i++) {
            if (Integer.bitCount(a.bits(s)) == told.hards.size()) {
                return state.day + i;
            }
            live(a, inForce(), new How());
        }
        return -2;
    }

    int off(int what) {
        if (told == null || what < 0 || what > 1) {
            return -1;
        }
        State a = state.copy();
        for (int i = 0; i < 200; i++) {
            int[] before = a.passed.clone();
            live(a, inForce(), new How());
            for (int s = 0; s < told.scouts; s++) {
                if (a.passed[s] > before[s]) {
                    return what == 0 ? state.day + i : s;
                }
            }
        }
        return -2;
    }

    int cover(int what) {
        if (told == null || what < 0 || what > 1) {
            return -1;
        }
        for (int size = 0; size <= 6; size++) {
            for (int set = 0; set < 1 << told.scouts; set++) {
                if (Integer.bitCount(set) != size) {
                    continue;
                }
                boolean good = true;
                for (int k = 0; k < told.hards.size(); k++) {
                    boolean anybody = false;
                    boolean inSet = false;
                    for (int s = 0; s < told.scouts; s++) {
                        boolean can = comesOff(state, s, k, calmNow());
                        anybody |= can;
                        inSet |= can && (set >> s & 1) == 1;
                    }
                    good &= inSet || !anybody;
                }
                if (good) {
                    return what == 0 ? size : set;
                }
            }
        }
        throw new IllegalStateException();
    }

    private int bestMatch;
    private int[] bestRow;

    private void matches(int[] row, int s) {
        if (s == told.scouts) {
            int n = 0;
            for (int i = 0; i < s; i++) {
                n += row[i] >= 0 ? 1 : 0;
            }
            if (n > bestMatch) {
                bestMatch = n;
                bestRow = row.clone();
            }
            return;
        }
        for (int k = -1; k < told.hards.size(); k++) {
            boolean free = true;
            for (int i = 0; i < s; i++) {
                free &= k < 0 || row[i] != k;
            }
            if (free && (k < 0 || comesOff(state, s, k, calmNow()))) {
                row[s] = k;
                matches(row, s + 1);
            }
        }
    }

    int match(int what) {
        if (told == null || what < -1 || what > 5) {
            return -3;
        }
        bestMatch = -1;
        matches(new int[6], 0);
        return what < 0 ? bestMatch : what >= told.scouts ? -2 : bestRow[what];
    }

    int trust() {
        if (told == null) {
            return -1;
        }
        List<int[]> all = new ArrayList<>();
        for (int s = 0; s < told.scouts; s++) {
            all.add(new int[] {Integer.bitCount(state.bits(s)), -state.passed[s], s});
        }
        return all.isEmpty() ? -2 : Collections.min(all, Arrays::compare)[2];
    }

    int row(int s, int n, int what) {
        if (!isScout(s) || n < 1 || n > 4 || what < 0 || what > 4) {
            return -3;
        }
        int[] best = null;
        int most = -1;
        int[] row = new int[n];
        Arrays.fill(row, -1);
        while (true) {
            State a = state.copy();
            for (int i = 0; i < n; i++) {
                How how = new How();
                how.forced.put(s, row[i]);
                live(a, inForce(), how);
            }
            if (Integer.bitCount(a.bits(s)) > most) {
                most = Integer.bitCount(a.bits(s));
                best = row.clone();
            }
            int i = n - 1;
            while (i >= 0 && row[i] == told.hards.size() - 1) {
                row[i--] = -1;
            }
            if (i < 0) {
                break;
            }
            row[i]++;
        }
        return what == 0 ? most : what > n ? -2 : best[what - 1];
    }

    int leastLearn(int n) {
        if (told == null || n < 1 || n > 60) {
            return -1;
        }
        for (int l = 0; l <= 9; l++) {
            State a = state.copy();
            How how = new How();
            how.learn = l;
            for (int i = 0; i < n; i++) {
                live(a, inForce(), how);
            }
            boolean all = true;
            for (int s = 0; s < told.scouts; s++) {
                all &= a.passed[s] > state.passed[s];
            }
            if (all) {
                return l;
            }
        }
        return -2;
    }

    int calmest(int s, int k) {
        if (!isScout(s) || !isKind(k)) {
            return -1;
        }
        for (int i = 0; i < 60; i++) {
            if (comesOff(state, s, k, told.calm(state.day + i))) {
                return state.day + i;
            }
        }
        return -2;
    }

    int leftOut(int n, int what) {
        if (told == null || n < 1 || n > 30 || what < 0 || what > 1) {
            return -1;
        }
        int best = -1;
        for (int set = 0; set < 1 << told.hards.size(); set++) {
            State a = state.copy();
            How how = new How();
            how.banned = set;
            int off = 0;
            for (int i = 0; i < n; i++) {
                off |= live(a, inForce(), how);
            }
            if (off == 0 && (best < 0 || Integer.bitCount(set) < Integer.bitCount(best))) {
                best = set;
            }
        }
        return what == 0 ? Integer.bitCount(best) : best;
    }

    int rests(int one, int other, int n, int what) {
        if (!isScout(one) || !isScout(other) || one == other || n < 1 || n > 20 || what < 0
                || what > 2) {
            return -1000;
        }
        int kinds = told.hards.size();
        int[][] ofOne = new int[kinds][kinds];
        int[][] ofOther = new int[kinds][kinds];
        for (int a = 0; a < kinds; a++) {
            for (int b = 0; b < kinds; b++) {
                State s = state.copy();
                How how = new How();
                how.forced.put(one, a);
                how.forced.put(other, b);
                for (int i = 0; i < n; i++) {
                    live(s, inForce(), how);
                }
                ofOne[a][b] = Integer.bitCount(s.bits(one)) - s.passed[one] + state.passed[one];
                ofOther[a][b] =
                        Integer.bitCount(s.bits(other)) - s.passed[other] + state.passed[other];
            }
        }
        int[] first = null;
        int many = 0;
        for (int a = 0; a < kinds; a++) {
            for (int b = 0; b < kinds; b++) {
                boolean rests = true;
                for (int c = 0; c < kinds; c++) {
                    rests &= ofOne[c][b] <= ofOne[a][b] && ofOther[a][c] <= ofOther[a][b];
                }
                if (rests) {
                    many++;
                    first = first == null ? new int[] {a, b} : first;
                }
            }
        }
        return what == 0 ? many : first == null ? -2 : first[what - 1];
    }

    int pence(int much, int s) {
        if (much < 0 || much > 9999 || !isScout(s)) {
            return -1;
        }
        int all = state.badges();
        if (all == 0) {
            return 0;
        }
        int[] part = new int[6];
        List<int[]> losses = new ArrayList<>();
        int left = much;
        for (int i = 0; i < told.scouts; i++) {
            int share = much * Integer.bitCount(state.bits(i));
            part[i] = share / all;
            left -= part[i];
            losses.add(new int[] {-(share - part[i] * all), i});
        }
        losses.sort(Arrays::compare);
        for (int i = 0; i < left; i++) {
            part[losses.get(i)[1]]++;
        }
        return part[s];
    }

    int ring(int what) {
        if (told == null || what < 0 || what > 1) {
            return -1;
        }
        List<String> all = new ArrayList<>();
        State a = state.copy();
        for (int i = 0; i <= 60; i++) {
            all.add(Arrays.deepToString(a.badge) + Arrays.deepToString(a.skill));
            live(a, inForce(), new How());
        }
        for (int i = 0; i < 60; i++) {
            int j = all.subList(i + 1, 61).indexOf(all.get(i));
            if (j >= 0) {
                return what == 0 ? state.day + i : j + 1;
            }
        }
        return -2;
    }

    int note(int n, int s, int k, int has) {
        if (n == -1) {
            notes.clear();
            return 0;
        }
        if (n < 0 || n > 60 || !isScout(s) || !isKind(k) || has < 0 || has > 1
                || notes.size() == 10) {
            return -2;
        }
        Note note = new Note();
        note.n = n;
        note.scout = s;
        note.kind = k;
        note.has = has;
        notes.add(note);
        return notes.size();
    }

    private List<Integer> allowed() {
        List<Integer> all = new ArrayList<>();
        for (int r = -1; r < rules.size(); r++) {
            boolean good = true;
            for (Note note : notes) {
                State a = begin();
                for (int i = 0; i <= note.n; i++) {
                    live(a, r < 0 ? null : rules.get(r), new How());
                }
                good &= a.badge[note.scout][note.kind] == (note.has == 1);
            }
            if (good) {
                all.add(r);
            }
        }
        return all;
    }

    int ruled(int what) {
        if (told == null || what < 0 || what > 1) {
            return -3;
        }
        List<Integer> all = allowed();
        return what == 0 ? all.size() : all.isEmpty() ? -2 : all.get(0);
    }

    int look(int n, int what) {
        if (told == null || n < 0 || n > 60 || what < 0 || what > 1) {
            return -1;
        }
        List<Integer> all = allowed();
        int best = -2;
        int fewest = 1000;
        for (int s = 0; s < told.scouts && !all.isEmpty(); s++) {
            Map<Integer, Integer> groups = new HashMap<>();
            for (int r : all) {
                State a = begin();
                for (int i = 0; i <= n; i++) {
                    live(a, r < 0 ? null : rules.get(r), new How());
                }
                groups.merge(a.bits(s), 1, Integer::sum);
            }
            int most = Collections.max(groups.values());
            if (most < fewest) {
                fewest = most;
                best = s;
            }
        }
        return what == 0 || best < 0 ? best : fewest;
    }

    int seed(int to) {
        if (to < 0) {
            return -1;
        }
        int was = x;
        x = to;
        return was;
    }

    private long drawX;

    private int draw() {
        drawX = (drawX * 1103515245L + 12345L) & 0x7fffffffL;
        return (int) (drawX >> 16);
    }

    int camps(int m, int n, int p, int what) {
        if (told == null || m < 1 || m > 10 || n < 1 || n > 60 || p < 0 || p > 100 || what < 0
                || what > 1) {
            return -1;
        }
        drawX = x;
        int off = 0;
        int badges = 0;
        for (int i = 0; i < m; i++) {
            State a = state.copy();
            for (int d = 0; d < n; d++) {
                How how = new How();
                if (draw() % 100 < p) {
                    how.calm = draw() % 10;
                }
                off += Integer.bitCount(live(a, inForce(), how));
            }
            badges += a.badges();
        }
        return what == 0 ? off : badges;
    }

    int count(int what) {
        Told t = told == null ? new Told() : told;
        switch (what) {
            case 0: return t.learn;
            case 1: return t.least;
            case 2: return t.calms.size();
            case 3: return t.hards.size();
            case 4: return t.scouts;
            case 5: return rules.size();
            case 6: return force;
            case 7: return state.day;
            case 8: return t.calm(state.day);
            case 9: return state.badges();
            case 10: return Arrays.stream(state.passed).sum();
            case 11: return notes.size();
            case 12: return past.size();
            case 13: return x;
            case 14: return tape.length();
            default: return -1;
        }
    }

    int image(int k) {
        if (k < 0 || k > 3) {
            return -1;
        }
        Image i = new Image();
        i.told = told;
        i.state = state.copy();
        i.force = force;
        i.x = x;
        i.notes = new ArrayList<>(notes);
        images[k] = i;
        return state.day;
    }

    int back(int k) {
        if (k < 0 || k > 3 || images[k] == null) {
            return -1;
        }
        Image i = images[k];
        told = i.told;
        state = i.state.copy();
        force = i.force;
        x = i.x;
        notes = new ArrayList<>(i.notes);
        past.clear();
        return state.day;
    }
}
