import java.util.ArrayDeque;
import java.util.ArrayList;
import java.util.Arrays;
import java.util.List;
import java.util.NoSuchElementException;
import java.util.regex.Matcher;
import java.util.regex.Pattern;

/**
 * The document once more, minute by minute and without any thought for speed, to compare CloudTakes with.
 * Nothing of the class is used here: the text is read by a machine of two states, rules are climbed by
 * precedence, and what can be had is found by walking every minute, place and set.
 */
final class PlainModel {
    static final int NONE = -1;

    record Shot(int kind, int light, int length, int from, int to, int after) {
        boolean isInside() {
            return kind == 2;
        }
    }

    record Token(String text, int place) {
        boolean isWord() {
            return text.matches("[a-z]+");
        }

        boolean isNumber() {
            return text.matches("[0-9]+");
        }

        boolean is(String other) {
            return text.equals(other);
        }
    }

    static final class Fault extends RuntimeException {
        private static final long serialVersionUID = 1;
        final int number;
        final int place;

        Fault(int number, Token token) {
            this.number = number;
            this.place = token.place();
        }
    }

    /** All that acts change. */
    static final class State implements Cloneable {
        int now;
        boolean inside;
        boolean[] had = new boolean[8];
        int[] spoilt = new int[8];
        int waited;
        int film;
        boolean lamps;
        boolean silk;
        boolean[] sun = new boolean[480];

        State copy() {
            State s = new State();
            s.now = now;
            s.inside = inside;
            s.had = had.clone();
            s.spoilt = spoilt.clone();
            s.waited = waited;
            s.film = film;
            s.lamps = lamps;
            s.silk = silk;
            s.sun = sun.clone();
            return s;
        }

        int hadBits() {
            int bits = 0;
            for (int i = 0; i < 8; i++) {
                bits |= had[i] ? 1 << i : 0;
            }
            return bits;
        }
    }

    record Seen(int shot, int minute, boolean had) {
    }

    record Image(State state, List<State> acts, List<Seen> seen, int[] status) {
    }

    List<Shot> shots = new ArrayList<>();
    List<List<Token>> rules = new ArrayList<>();
    int day = 240;
    int move = 50;
    int cold = 1;
    State state = new State();
    ArrayDeque<State> acts = new ArrayDeque<>();
    List<Seen> seen = new ArrayList<>();
    int[] status = new int[3];
    Image image;
    StringBuilder tape = new StringBuilder();
    int faultPlace = NONE;

    // ---- the text

    int feed(int... numbers) {
        if (tape.length() + 20 > 700) {
            return NONE;
        }
        for (int number : numbers) {
            for (int shift = 24; shift >= 0; shift -= 8) {
                tape.append((char) (number >> shift & 255));
            }
        }
        return tape.length();
    }

    int plan(int n) {
        if (n < 0 || n > tape.length()) {
            throw new IllegalArgumentException();
        }
        String text = tape.substring(0, n);
        tape.setLength(0);
        try {
            read(text);
            faultPlace = NONE;
            return 0;
        } catch (Fault f) {
            faultPlace = f.place;
            status[0]++;
            return f.number;
        }
    }

    static List<Token> tokens(String text) {
        List<Token> list = new ArrayList<>();
        Matcher m = Pattern.compile("[a-z]+|[0-9]+|[^ \\n]", Pattern.DOTALL).matcher(text);
        while (m.find()) {
            list.add(new Token(m.group(), m.start()));
        }
        list.add(new Token("", text.length()));
        return list;
    }

    static final List<String> VALUES =
            List.of("length", "kind", "light", "left", "until", "hour", "waited", "tries");

    private void read(String text) {
        List<Token> all = tokens(text);
        List<Shot> newShots = new ArrayList<>();
        List<List<Token>> newRules = new ArrayList<>();
        int[] settings = {NONE, NONE, NONE};
        boolean[] sun = new boolean[480 * 20];
        int parts = 0;
        int minutes = 0;
        int i = 0;
        while (!all.get(i).is("")) {
            Token first = all.get(i++);
            switch (first.text()) {
                case "sun", "cloud" -> {
                    if (++parts > 16) {
                        throw new Fault(2, first);
                    }
                    int many = number(all.get(i++), 1, 480);
                    Arrays.fill(sun, minutes, minutes + many, first.is("sun"));
                    minutes += many;
                }
                case "wide", "near", "inside" -> {
                    if (newShots.size() == 8) {
                        throw new Fault(2, first);
                    }
                    int light = number(all.get(i++), 0, 2);
                    int length = number(all.get(i++), 1, 30);
                    int from = number(all.get(i++), 0, 480);
                    int to = number(all.get(i++), from, 480);
                    int after = NONE;
                    if (all.get(i).is("after")) {
                        Token t = all.get(i + 1);
                        after = number(t, 0, 9999);
                        if (after >= newShots.size()) {
                            throw new Fault(3, t);
                        }
                        i += 2;
                    }
                    int kind = List.of("wide", "near", "inside").indexOf(first.text());
                    newShots.add(new Shot(kind, light, length, from, to, after));
                }
                case "day", "move", "cold" -> {
                    int which = List.of("day", "move", "cold").indexOf(first.text());
                    if (settings[which] != NONE) {
                        throw new Fault(4, first);
                    }
                    settings[which] = number(all.get(i++), which == 0 ? 10 : 0, new int[] {480, 120, 9}[which]);
                }
                case "rule" -> {
                    if (newRules.size() == 4) {
                        throw new Fault(2, first);
                    }
                    int end = checkRule(all, i);
                    newRules.add(all.subList(i, end));
                    i = end;
                }
                default -> throw new Fault(1, first);
            }
            if (!all.get(i).is(";")) {
                throw new Fault(1, all.get(i));
            }
            i++;
        }
        shots = newShots;
        rules = newRules;
        day = settings[0] == NONE ? 240 : settings[0];
        move = settings[1] == NONE ? 50 : settings[1];
        cold = settings[2] == NONE ? 1 : settings[2];
        state = new State();
        state.sun = Arrays.copyOf(sun, 480);
        acts.clear();
        seen.clear();
        image = null;
    }

    private static int number(Token token, int least, int most) {
        if (!token.isNumber()) {
            throw new Fault(1, token);
        }
        if (token.text().length() > 4 || Integer.parseInt(token.text()) < least
                || Integer.parseInt(token.text()) > most) {
            throw new Fault(2, token);
        }
        return Integer.parseInt(token.text());
    }

    /** The place of the ';' behind a rule: a machine that waits for an operand or for an operator. */
    private static int checkRule(List<Token> all, int start) {
        boolean wantsOperand = true;
        boolean mayNot = true;
        int nots = 0;
        ArrayDeque<Boolean> compared = new ArrayDeque<>();
        compared.push(false);
        for (int i = start;; i++) {
            Token t = all.get(i);
            boolean tooDeep = compared.size() > 6;
            if (wantsOperand) {
                if (!t.isNumber() && !t.isWord() && !t.is("(")) {
                    throw new Fault(1, t);
                }
                if (tooDeep || t.isNumber() && t.text().length() > 4 || t.is("not") && mayNot && nots == 6) {
                    throw new Fault(2, t);
                }
                if (t.is("not") && mayNot) {
                    nots++;
                } else if (t.is("(")) {
                    compared.push(false);
                    mayNot = true;
                    nots = 0;
                } else if (t.isWord() && !VALUES.contains(t.text())) {
                    throw new Fault(3, t);
                } else {
                    wantsOperand = false;
                }
                continue;
            }
            switch (t.text()) {
                case "+", "-", "*", "/" -> mayNot = false;
                case "<", "=" -> {
                    if (compared.pop()) {
                        throw new Fault(1, t);
                    }
                    compared.push(true);
                    mayNot = false;
                }
                case "and", "or" -> {
                    compared.pop();
                    compared.push(false);
                    mayNot = true;
                    nots = 0;
                }
                case ")" -> {
                    if (compared.size() == 1) {
                        throw new Fault(1, t);
                    }
                    compared.pop();
                    continue;
                }
                case ";" -> {
                    if (compared.size() > 1) {
                        throw new Fault(1, t);
                    }
                    return i;
                }
                default -> throw new Fault(1, t);
            }
            wantsOperand = true;
        }
    }

    // ---- rules

    private static final class Cursor {
        int at;
    }

    static int evaluate(List<Token> rule, int[] values) {
        return climb(rule, values, new Cursor(), 0);
    }

    private static int strength(String sign) {
        return switch (sign) {
            case "or" -> 1;
            case "and" -> 2;
            case "<", "=" -> 4;
            case "+", "-" -> 5;
            case "*", "/" -> 6;
            default -> 0;
        };
    }

    private static int climb(List<Token> rule, int[] values, Cursor c, int least) {
        Token t = rule.get(c.at++);
        int left;
        if (t.is("not")) {
            // 'not' holds what follows it up to 'and' and 'or'.
            left = climb(rule, values, c, 4) == 0 ? 1 : 0;
        } else if (t.is("(")) {
            left = climb(rule, values, c, 1);
            c.at++;
        } else if (t.isNumber()) {
            left = Integer.parseInt(t.text());
        } else {
            left = values[VALUES.indexOf(t.text())];
        }
        while (c.at < rule.size() && strength(rule.get(c.at).text()) >= Math.max(least, 1)) {
            String sign = rule.get(c.at++).text();
            int right = climb(rule, values, c, strength(sign) + 1);
            left = switch (sign) {
                case "or" -> left != 0 || right != 0 ? 1 : 0;
                case "and" -> left != 0 && right != 0 ? 1 : 0;
                case "<" -> left < right ? 1 : 0;
                case "=" -> left == right ? 1 : 0;
                case "+" -> left + right;
                case "-" -> left - right;
                case "*" -> left * right;
                default -> right == 0 ? 0 : left / right;
            };
        }
        return left;
    }

    // ---- light

    /** 1 sun, 2 cloud, 0: it needs none. */
    int light(State s, Shot shot, int minute) {
        if (shot.isInside()) {
            return 0;
        }
        if (shot.kind() == 1 && s.lamps) {
            return 1;
        }
        if (shot.kind() == 1 && s.silk) {
            return 2;
        }
        return s.sun[minute] ? 1 : 2;
    }

    int why(State s, int i, int minute, int end) {
        Shot shot = shots.get(i);
        if (s.had[i]) {
            return 1;
        }
        if (shot.after() != NONE && !s.had[shot.after()]) {
            return 2;
        }
        if (shot.isInside() != s.inside) {
            return 3;
        }
        return whyMinute(s, shot, minute, end);
    }

    int whyMinute(State s, Shot shot, int minute, int end) {
        if (minute < shot.from() || minute > shot.to()) {
            return 4;
        }
        if (!shot.isInside() && shot.light() != 0 && light(s, shot, minute) != shot.light()) {
            return 5;
        }
        return minute + shot.length() > end ? 6 : 0;
    }

    /** The minute in which it is broken off, NONE if it is not. */
    int brokenOff(State s, Shot shot, int minute) {
        for (int m = minute; m < minute + shot.length(); m++) {
            if (light(s, shot, m) != light(s, shot, minute)) {
                return m;
            }
        }
        return NONE;
    }

    boolean wouldBeHad(State s, Shot shot, int minute, int end) {
        return whyMinute(s, shot, minute, end) == 0 && brokenOff(s, shot, minute) == NONE;
    }

    int left(State s, int minute) {
        int many = 0;
        while (minute + many < day && s.sun[minute + many] == s.sun[minute]) {
            many++;
        }
        return many;
    }

    int edge(int minute) {
        for (int m = minute + 1; m < day; m++) {
            if (state.sun[m] != state.sun[m - 1]) {
                return m;
            }
        }
        return NONE;
    }

    // ---- acts

    private void keep() {
        acts.addLast(state.copy());
        if (acts.size() > 40) {
            acts.removeFirst();
        }
    }

    private int refuse() {
        status[1]++;
        return NONE;
    }

    boolean shoot(State s, int i) {
        Shot shot = shots.get(i);
        int broken = brokenOff(s, shot, s.now);
        int end = broken == NONE ? s.now + shot.length() : broken + 1;
        s.film += end - s.now;
        s.now = end;
        s.waited = 0;
        if (broken == NONE) {
            s.had[i] = true;
        } else {
            s.spoilt[i]++;
        }
        return broken == NONE;
    }

    int take(int i) {
        if (state.now == day || why(state, i, state.now, day) != 0) {
            return refuse();
        }
        keep();
        return shoot(state, i) ? 1 : 0;
    }

    int await(int minutes) {
        if (minutes < 1 || minutes > 60 || state.now + minutes > day) {
            return refuse();
        }
        keep();
        state.now += minutes;
        state.waited += minutes;
        return state.now;
    }

    int move(boolean inside) {
        if (state.inside == inside || state.now + move > day) {
            return refuse();
        }
        keep();
        state.now += move;
        state.inside = inside;
        state.waited = 0;
        return state.now;
    }

    boolean sets(int what, boolean on) {
        keep();
        boolean before = what == 0 ? state.lamps : state.silk;
        if (what == 0) {
            state.lamps = on;
        } else {
            state.silk = on;
        }
        return before;
    }

    int clouds(int from, int to, boolean sun) {
        if (from < 0 || to >= day || to < from) {
            return refuse();
        }
        keep();
        int changed = 0;
        for (int m = from; m <= to; m++) {
            changed += state.sun[m] != sun ? 1 : 0;
            state.sun[m] = sun;
        }
        return changed;
    }

    int undo() {
        if (acts.isEmpty()) {
            return NONE;
        }
        state = acts.removeLast();
        return acts.size();
    }

    // ---- days by a rule

    static final class Day {
        int had;
        int film;
        int spoilt;
        int last = NONE;
        int bits;
        int idle;
        int moves;
        int[] ends = new int[8];
    }

    Day day(State start, int rule) {
        Day d = new Day();
        State s = start.copy();
        Arrays.fill(d.ends, NONE);
        while (s.now < day) {
            int chosen = NONE;
            int most = 0;
            for (int i = shots.size() - 1; i >= 0; i--) {
                if (why(s, i, s.now, day) == 0) {
                    int given = rule == NONE ? 1 : evaluate(rules.get(rule), values(s, i));
                    if (given > 0 && given >= most) {
                        chosen = i;
                        most = given;
                    }
                }
            }
            if (chosen != NONE) {
                if (shoot(s, chosen)) {
                    d.had++;
                    d.last = s.now;
                    d.ends[chosen] = s.now;
                    d.bits |= 1 << chosen;
                } else {
                    d.spoilt++;
                }
            } else if (!isSomeOpen(s, s.inside) && isSomeOpen(s, !s.inside) && s.now + move < day) {
                s.now += move;
                s.inside = !s.inside;
                s.waited = 0;
                d.moves++;
            } else {
                s.now++;
                s.waited++;
                d.idle++;
            }
        }
        d.film = s.film - start.film;
        return d;
    }

    private boolean isSomeOpen(State s, boolean inside) {
        for (int i = 0; i < shots.size(); i++) {
            Shot shot = shots.get(i);
            if (!s.had[i] && (shot.after() == NONE || s.had[shot.after()]) && shot.isInside() == inside) {
                return true;
            }
        }
        return false;
    }

    private int[] values(State s, int i) {
        Shot shot = shots.get(i);
        return new int[] {shot.length(), shot.kind(), shot.light(), left(s, s.now), shot.to() - s.now + 1,
            s.now / 60, s.waited, s.spoilt[i]};
    }

    int best() {
        int best = NONE;
        for (int rule = 0; rule < rules.size(); rule++) {
            Day a = day(state, rule);
            Day b = day(state, best);
            if (a.had > b.had || a.had == b.had && a.film < b.film) {
                best = rule;
            }
        }
        return best;
    }

    int which() {
        int bits = 0;
        for (int rule = NONE; rule < rules.size(); rule++) {
            Day d = day(state, rule);
            boolean agrees = true;
            for (Seen one : seen) {
                boolean had = state.had[one.shot()]
                        || d.ends[one.shot()] != NONE && d.ends[one.shot()] - 1 <= one.minute();
                agrees &= had == one.had();
            }
            if (agrees) {
                bits |= rule == NONE ? 16 : 1 << rule;
            }
        }
        return bits;
    }

    int seed;

    private int draw(int n) {
        seed = seed * 1103515245 + 12345;
        return (seed >> 16 & 0x7fff) % n;
    }

    int week(int rule, int begin, int n, int what) {
        seed = begin;
        int all = 0;
        int fewest = 9;
        int film = 0;
        for (int i = 0; i < n; i++) {
            State s = state.copy();
            Arrays.fill(s.sun, s.now, 480, false);
            int parts = draw(16);
            int minute = s.now;
            for (int p = 0; p < parts; p++) {
                int many = draw(30) + 1;
                for (int m = minute; m < minute + many && m < 480; m++) {
                    s.sun[m] = p % 2 == 1;
                }
                minute += many;
            }
            Day d = day(s, rule);
            all += d.had;
            fewest = Math.min(fewest, d.had);
            film += d.film;
        }
        return what == 0 ? all : what == 1 ? n == 0 ? 0 : fewest : film;
    }

    // ---- what can be had: every minute, place and set that one can come to

    /** By set, the first minute in which all of it is had; NONE if that can't be. Bits of had ones are set too. */
    int[] soonest(State s, int end, int allowed) {
        int n = shots.size();
        boolean[][][] reach = new boolean[end + 1][2][1 << n];
        reach[s.now][s.inside ? 1 : 0][s.hadBits()] = true;
        int[] first = new int[1 << n];
        Arrays.fill(first, NONE);
        for (int m = s.now; m <= end; m++) {
            // Twice, since a move may take no minute.
            for (int round = 0; round < 2; round++) {
                for (int place = 0; place < 2; place++) {
                    for (int set = 0; set < 1 << n; set++) {
                        if (reach[m][place][set]) {
                            stepOn(s, end, allowed, reach, m, place, set);
                            if (first[set] == NONE) {
                                first[set] = m;
                            }
                        }
                    }
                }
            }
        }
        return first;
    }

    private void stepOn(State s, int end, int allowed, boolean[][][] reach, int m, int place, int set) {
        if (m + 1 <= end) {
            reach[m + 1][place][set] = true;
        }
        if (m + move <= end) {
            reach[m + move][1 - place][set] = true;
        }
        for (int i = 0; i < shots.size(); i++) {
            Shot shot = shots.get(i);
            boolean isFree = shot.after() == NONE || (set >> shot.after() & 1) == 1;
            if ((set >> i & 1) == 0 && (allowed >> i & 1) == 1 && isFree && shot.isInside() == (place == 1)
                    && m < end && wouldBeHad(s, shot, m, end)) {
                reach[m + shot.length()][place][set | 1 << i] = true;
            }
        }
    }

    /** How many, by when, which. */
    int[] most(State s, int end, int allowed) {
        int[] first = soonest(s, end, allowed);
        int had = s.hadBits();
        int[] best = {0, s.now, 0};
        for (int set = 0; set < first.length; set++) {
            if (first[set] != NONE && (set & had) == had) {
                int many = Integer.bitCount(set & ~had);
                if (many > best[0] || many == best[0] && first[set] < best[1]) {
                    best = new int[] {many, first[set], set & ~had};
                }
            }
        }
        return best;
    }

    List<Integer> order() {
        int[] most = most(state, day, 255);
        List<Integer> row = new ArrayList<>();
        return order(most[2], most[1], state.now, state.inside, state.hadBits(), row) ? row : null;
    }

    private boolean order(int rest, int end, int now, boolean inside, int had, List<Integer> row) {
        if (rest == 0) {
            return now == end || row.isEmpty();
        }
        for (int i = 0; i < shots.size(); i++) {
            Shot shot = shots.get(i);
            if ((rest >> i & 1) == 1 && (shot.after() == NONE || (had >> shot.after() & 1) == 1)) {
                int m = now + (inside == shot.isInside() ? 0 : move);
                while (m < day && !wouldBeHad(state, shot, m, day)) {
                    m++;
                }
                if (m < day) {
                    row.add(i);
                    if (order(rest & ~(1 << i), end, m + shot.length(), shot.isInside(), had | 1 << i, row)) {
                        return true;
                    }
                    row.remove(row.size() - 1);
                }
            }
        }
        return false;
    }

    int inside() {
        int wanted = 0;
        int had = state.hadBits();
        State s = state.copy();
        for (int i = 0; i < shots.size(); i++) {
            Shot shot = shots.get(i);
            if (shot.isInside() && !state.had[i]) {
                wanted |= 1 << i;
                if (shot.after() != NONE && !shots.get(shot.after()).isInside()) {
                    s.had[shot.after()] = true;
                    had |= 1 << shot.after();
                }
            }
        }
        if (wanted == 0 || state.inside) {
            return NONE;
        }
        for (int m = day - 1; m >= state.now; m--) {
            if (m + move <= day) {
                s.now = m + move;
                s.inside = true;
                if (soonest(s, day, wanted)[had | wanted] != NONE) {
                    return m;
                }
            }
        }
        return NONE;
    }

    // ---- holes

    List<int[]> holes() {
        List<int[]> list = new ArrayList<>();
        for (int m = 0; m < day; m++) {
            if (state.sun[m] && (m == 0 || !state.sun[m - 1])) {
                list.add(new int[] {m, left(state, m)});
            }
        }
        return list;
    }

    // ---- image

    void image() {
        List<State> kept = new ArrayList<>();
        acts.forEach(a -> kept.add(a.copy()));
        image = new Image(state.copy(), kept, List.copyOf(seen), status.clone());
    }

    boolean restore() {
        if (image == null) {
            return false;
        }
        state = image.state().copy();
        acts.clear();
        image.acts().forEach(a -> acts.addLast(a.copy()));
        seen = new ArrayList<>(image.seen());
        status = image.status().clone();
        return true;
    }

    int count(int what) {
        return switch (what) {
            case 0 -> shots.size();
            case 1 -> day;
            case 2 -> move;
            case 3 -> cold;
            case 4 -> rules.size();
            case 5 -> state.now;
            case 6 -> state.inside ? 1 : 0;
            case 7 -> state.hadBits();
            case 8 -> state.film;
            case 9 -> state.lamps ? 1 : 0;
            case 10 -> state.silk ? 1 : 0;
            case 11 -> state.waited;
            case 12 -> Math.min(100, cold * state.waited);
            case 13 -> acts.size();
            case 14 -> seen.size();
            case 15 -> tape.length();
            case 16, 17, 18 -> status[what - 16];
            default -> throw new NoSuchElementException();
        };
    }
}
