import java.util.ArrayDeque;
import java.util.ArrayList;
import java.util.Arrays;
import java.util.Collections;
import java.util.HashSet;
import java.util.LinkedHashMap;
import java.util.List;
import java.util.Map;
import java.util.NoSuchElementException;
import java.util.Set;

/**
 * The document once more, written as slowly and plainly as can be: walkers are moved tenth by tenth,
 * and what is the best is found by trying all. PlainTest holds the class against it.
 */
final class Plain {
    private static final class Fault extends RuntimeException {
        final int code;

        Fault(int kind, int place) {
            super(null, null, false, false);
            code = kind + 16 * place;
        }
    }

    private static final class Token {
        final String text;
        final int place;
        final char sort; // w word, n number, s sign, x none, e end

        Token(String text, int place, char sort) {
            this.text = text;
            this.place = place;
            this.sort = sort;
        }
    }

    private interface Formula {
        int of(Map<String, Integer> facts);
    }

    private static final class Person {
        String kind;
        int lane, from, pace, lag, word = -1;
        boolean right;
    }

    private static final class Must {
        final int person, word, cell;

        Must(int person, int word, int cell) {
            this.person = person;
            this.word = word;
            this.cell = cell;
        }
    }

    private static final class Ground {
        int cells = 4, lanes = 1, low = 0, high = 3, sharp = 1, round = 20;
        final LinkedHashMap<String, Integer> words = new LinkedHashMap<>();
        final LinkedHashMap<String, Person> people = new LinkedHashMap<>();
        final List<Must> musts = new ArrayList<>();
        Formula quick = f -> f.get("tempo");
        Formula odd = f -> f.get("passes") - 1;

        Person person(int i) {
            return new ArrayList<>(people.values()).get(i);
        }

        int tenth(int word) {
            return new ArrayList<>(words.values()).get(word);
        }
    }

    private static final class State {
        int take;
        int[] starts = new int[8];
        boolean[] rights = new boolean[8];
        int[] lates = new int[8];
        List<int[]> told = new ArrayList<>();
        List<int[]> sights = new ArrayList<>();

        State copy() {
            State s = new State();
            s.take = take;
            s.starts = starts.clone();
            s.rights = rights.clone();
            s.lates = lates.clone();
            s.told = new ArrayList<>(told);
            s.sights = new ArrayList<>(sights);
            return s;
        }
    }

    private static final Set<String> RESERVED = new HashSet<>(Arrays.asList("street", "lanes", "frame", "to",
        "sharp", "say", "at", "walker", "lane", "from", "pace", "lag", "on", "must", "round", "quick", "odd",
        "start", "turn", "late", "take", "left", "right", "plain", "pram", "dog", "stray", "not", "and", "or"));
    private static final List<String> KINDS = Arrays.asList("plain", "pram", "dog", "stray");

    private String tape = "";
    private Ground ground = new Ground();
    private List<String[]> script = new ArrayList<>();
    private State state = new State();
    private ArrayDeque<State> past = new ArrayDeque<>();
    private State[] marks = new State[4];

    int feed(long a, long b, long c) {
        for (long x : new long[] {a, b, c}) {
            for (int i = 7; i >= 0; i--) {
                char sign = (char) (x >> 8 * i & 0xff);
                if ((sign == 10 || sign >= 32 && sign <= 126) && tape.length() < 1000) {
                    tape += sign;
                }
            }
        }
        return tape.length();
    }

    // ---- reading

    private List<Token> tokens;
    private int at;
    private Ground draft;

    private static List<Token> cut(String text) {
        List<Token> all = new ArrayList<>();
        int i = 0;
        while (i < text.length()) {
            char c = text.charAt(i);
            if (c == '\n' || c == ' ') {
                i++;
                continue;
            }
            String rest = text.substring(i);
            String word = rest.replaceFirst("(?s)[^a-z].*", "");
            String number = rest.replaceFirst("(?s)[^0-9].*", "");
            if (!word.isEmpty()) {
                all.add(new Token(word, i, word.length() <= 8 ? 'w' : 'x'));
                i += word.length();
            } else if (!number.isEmpty()) {
                all.add(new Token(number, i, number.length() <= 4 ? 'n' : 'x'));
                i += number.length();
            } else {
                all.add(new Token("" + c, i, "()<=+-*;".indexOf(c) >= 0 ? 's' : 'x'));
                i++;
            }
        }
        all.add(new Token("", text.length(), 'e'));
        return all;
    }

    private Token look() {
        return tokens.get(at);
    }

    private Fault fault(int kind) {
        return new Fault(kind, look().place);
    }

    private boolean is(String text) {
        return look().sort != 'x' && look().sort != 'e' && look().text.equals(text);
    }

    private void need(String text) {
        if (!is(text)) {
            throw fault(1);
        }
        at++;
    }

    private int number(int least, int most) {
        if (look().sort != 'n') {
            throw fault(1);
        }
        int n = Integer.parseInt(look().text);
        if (n < least || n > most) {
            throw fault(4);
        }
        at++;
        return n;
    }

    private String name() {
        if (look().sort != 'w' || RESERVED.contains(look().text)) {
            throw fault(1);
        }
        return look().text;
    }

    private static int indexOf(Set<String> names, String name) {
        return new ArrayList<>(names).indexOf(name);
    }

    int street() {
        tokens = cut(tape);
        tape = "";
        at = 0;
        draft = new Ground();
        try {
            readStreet();
        } catch (Fault f) {
            return f.code;
        }
        ground = draft;
        state = asTold();
        script = new ArrayList<>();
        past = new ArrayDeque<>();
        marks = new State[4];
        return 0;
    }

    private State asTold() {
        State s = new State();
        for (int i = 0; i < ground.people.size(); i++) {
            s.starts[i] = ground.person(i).from;
            s.rights[i] = ground.person(i).right;
        }
        return s;
    }

    private void readStreet() {
        need("street");
        draft.cells = number(4, 40);
        need("lanes");
        draft.lanes = number(1, 4);
        need("frame");
        draft.low = number(0, draft.cells - 1);
        need("to");
        draft.high = number(draft.low, draft.cells - 1);
        need("sharp");
        draft.sharp = number(0, draft.lanes);
        need(";");
        Set<String> once = new HashSet<>();
        while (look().sort != 'e') {
            String line = look().text;
            if (look().sort != 'w' || !Arrays.asList("say", "walker", "must", "round", "quick", "odd").contains(line)) {
                throw fault(1);
            }
            if (line.equals("say")) {
                readSay();
            } else if (line.equals("walker")) {
                readWalker();
            } else if (line.equals("must")) {
                readMust();
            } else {
                if (!once.add(line)) {
                    throw fault(3);
                }
                at++;
                if (line.equals("round")) {
                    draft.round = number(0, 99);
                } else if (line.equals("quick")) {
                    draft.quick = expression(0, Arrays.asList("tempo", "nth"));
                } else {
                    draft.odd = expression(0, Arrays.asList("kind", "passes"));
                }
            }
            need(";");
        }
    }

    private void newName() {
        String name = name();
        if (draft.words.containsKey(name) || draft.people.containsKey(name)) {
            throw fault(3);
        }
    }

    private void readSay() {
        if (draft.words.size() == 6) {
            throw fault(5);
        }
        at++;
        newName();
        String name = look().text;
        at++;
        need("at");
        draft.words.put(name, number(0, 600));
    }

    private void readWalker() {
        if (draft.people.size() == 8) {
            throw fault(5);
        }
        at++;
        newName();
        String name = look().text;
        at++;
        Person p = new Person();
        if (!KINDS.contains(look().text)) {
            throw fault(1);
        }
        p.kind = look().text;
        at++;
        need("lane");
        p.lane = number(0, draft.lanes - 1);
        need("from");
        p.from = number(0, draft.cells - 1);
        if (!is("left") && !is("right")) {
            throw fault(1);
        }
        p.right = is("right");
        at++;
        need("pace");
        p.pace = number(1, 9);
        need("lag");
        p.lag = number(0, 99);
        if (is("on")) {
            at++;
            p.word = indexOf(draft.words.keySet(), name());
            if (p.word < 0) {
                throw fault(2);
            }
            at++;
        }
        draft.people.put(name, p);
    }

    private void readMust() {
        if (draft.musts.size() == 8) {
            throw fault(5);
        }
        at++;
        int person = indexOf(draft.people.keySet(), name());
        if (person < 0) {
            throw fault(2);
        }
        at++;
        int word = indexOf(draft.words.keySet(), name());
        if (word < 0) {
            throw fault(2);
        }
        for (Must m : draft.musts) {
            if (m.person == person && m.word == word) {
                throw fault(3);
            }
        }
        at++;
        draft.musts.add(new Must(person, word, number(0, draft.cells - 1)));
    }

    private Formula expression(int depth, List<String> facts) {
        Formula left = test(depth, facts);
        while (is("and") || is("or")) {
            boolean and = is("and");
            at++;
            Formula one = left;
            Formula two = test(depth, facts);
            left = f -> {
                boolean x = one.of(f) != 0;
                boolean y = two.of(f) != 0;
                return (and ? x && y : x || y) ? 1 : 0;
            };
        }
        return left;
    }

    private Formula test(int depth, List<String> facts) {
        Formula left = sum(depth, facts);
        if (is("<")) {
            at++;
            Formula right = sum(depth, facts);
            return f -> left.of(f) < right.of(f) ? 1 : 0;
        }
        if (is("=")) {
            at++;
            Formula right = sum(depth, facts);
            return f -> left.of(f) == right.of(f) ? 1 : 0;
        }
        return left;
    }

    private Formula sum(int depth, List<String> facts) {
        Formula left = product(depth, facts);
        while (is("+") || is("-")) {
            int sign = is("+") ? 1 : -1;
            at++;
            Formula one = left;
            Formula two = product(depth, facts);
            left = f -> one.of(f) + sign * two.of(f);
        }
        return left;
    }

    private Formula product(int depth, List<String> facts) {
        Formula left = part(depth, facts);
        while (is("*")) {
            at++;
            Formula one = left;
            Formula two = part(depth, facts);
            left = f -> one.of(f) * two.of(f);
        }
        return left;
    }

    private Formula part(int depth, List<String> facts) {
        String text = look().text;
        boolean fact = look().sort == 'w' && facts.contains(text);
        boolean fits = look().sort == 'n' || fact || is("not") || is("(");
        if (!fits) {
            throw fault(1);
        }
        if (depth == 5) {
            throw fault(5);
        }
        at++;
        if (fact) {
            return f -> f.get(text);
        }
        if (text.equals("not")) {
            Formula inner = part(depth + 1, facts);
            return f -> inner.of(f) == 0 ? 1 : 0;
        }
        if (text.equals("(")) {
            Formula inner = expression(depth + 1, facts);
            need(")");
            return inner;
        }
        int n = Integer.parseInt(text);
        return f -> n;
    }

    int takes() {
        tokens = cut(tape);
        tape = "";
        at = 0;
        List<String[]> lines = new ArrayList<>();
        try {
            while (look().sort != 'e') {
                String line = look().text;
                if (!Arrays.asList("start", "turn", "late", "take").contains(line)) {
                    throw fault(1);
                }
                if (lines.size() == 30) {
                    throw fault(5);
                }
                at++;
                String who = "-1";
                String many = "0";
                if (!line.equals("take")) {
                    who = "" + indexOf(ground.people.keySet(), name());
                    if (who.equals("-1")) {
                        throw fault(2);
                    }
                    at++;
                }
                if (line.equals("start")) {
                    many = "" + number(0, ground.cells - 1);
                } else if (line.equals("late")) {
                    many = "" + number(0, 99);
                }
                need(";");
                lines.add(new String[] {line, who, many});
            }
        } catch (Fault f) {
            return f.code;
        }
        script = lines;
        return 0;
    }

    // ---- walking

    private int tempo(int who, int take) {
        int e = ground.quick.of(Map.of("tempo", ground.person(who).pace, "nth", take));
        return e < 1 ? 1 : e > 99 ? 99 : e;
    }

    private int[] way(State s, int who, int take, boolean late) {
        return way(s, who, take, ground.person(who).lag, late ? s.lates[who] : 0);
    }

    /** His cell at each tenth from 0 to 600, moved a tenth at a time. */
    private int[] way(State s, int who, int take, int lag, int late) {
        Person p = ground.person(who);
        int cue = lag + late;
        if (p.word >= 0 && !p.kind.equals("stray")) {
            cue += ground.tenth(p.word);
        }
        int tempo = tempo(who, take);
        int[] cells = new int[601];
        int cell = s.starts[who];
        int dir = s.rights[who] ? 1 : -1;
        int waiting = -1; // tenths left behind the camera
        boolean gone = false;
        int since = 0;
        for (int t = 0; t <= 600; t++) {
            if (t > cue) {
                if (waiting > 0) {
                    waiting--;
                } else if (!gone) {
                    since++;
                }
                if (waiting == 0) {
                    waiting = -1;
                    gone = false;
                    since = 0;
                    cell = dir == 1 ? 0 : ground.cells - 1;
                } else if (!gone && since == tempo) {
                    since = 0;
                    cell += dir;
                    if (cell < 0 || cell >= ground.cells) {
                        if (p.kind.equals("dog")) {
                            cell -= dir;
                            dir = -dir;
                        } else if (p.kind.equals("pram")) {
                            gone = true;
                        } else if (ground.round == 0) {
                            cell = dir == 1 ? 0 : ground.cells - 1;
                        } else {
                            gone = true;
                            waiting = ground.round;
                        }
                    }
                }
            }
            cells[t] = gone ? -1 : cell;
        }
        return cells;
    }

    private int[][] ways(State s, int take, boolean late) {
        int[][] all = new int[ground.people.size()][];
        for (int i = 0; i < all.length; i++) {
            all[i] = way(s, i, take, late);
        }
        return all;
    }

    private boolean framed(int cell) {
        return cell >= ground.low && cell <= ground.high;
    }

    private boolean bump(int[][] ways, int one, int other, int t) {
        return ground.person(one).lane == ground.person(other).lane && ways[one][t] >= 0 && ways[one][t] == ways[other][t];
    }

    private int missed(int[][] ways) {
        int missed = 0;
        for (Must m : ground.musts) {
            if (ways[m.person][ground.tenth(m.word)] != m.cell) {
                missed++;
            }
        }
        return missed;
    }

    private boolean good(int[][] ways) {
        if (missed(ways) > 0) {
            return false;
        }
        for (int t = 0; t <= 600; t++) {
            for (int i = 0; i < ways.length; i++) {
                for (int j = 0; j < i; j++) {
                    if (bump(ways, i, j, t)) {
                        return false;
                    }
                }
            }
        }
        return true;
    }

    private boolean who(int w) {
        return w >= 0 && w < ground.people.size();
    }

    private boolean word(int w) {
        return w >= 0 && w < ground.words.size();
    }

    private boolean when(int t) {
        return t >= 0 && t <= 600;
    }

    private int passes(int w) {
        int[] way = way(state, w, state.take, true);
        StringBuilder spans = new StringBuilder();
        for (int cell : way) {
            spans.append(framed(cell) ? 'x' : ' ');
        }
        String trimmed = spans.toString().trim();
        return trimmed.isEmpty() ? 0 : trimmed.split(" +").length;
    }

    private int known(int w) {
        int passes = passes(w);
        if (passes < 2) {
            return 0;
        }
        int e = ground.odd.of(Map.of("kind", KINDS.indexOf(ground.person(w).kind), "passes", passes));
        return e < 0 ? 0 : e > 10 ? 10 : e;
    }

    int walker(int w, int what) {
        if (!who(w)) {
            return -1;
        }
        Person p = ground.person(w);
        int[] answers = {KINDS.indexOf(p.kind), p.lane, state.starts[w], state.rights[w] ? 1 : 0, tempo(w, state.take),
            p.lag, p.word, state.lates[w], passes(w), known(w)};
        return what < 0 || what > 9 ? -1 : answers[what];
    }

    int tenth(int word) {
        return word(word) ? ground.tenth(word) : -1;
    }

    private void remember() {
        past.push(state.copy());
        if (past.size() > 16) {
            past.removeLast();
        }
    }

    boolean start(int w, int cell) {
        if (!who(w) || cell < 0 || cell >= ground.cells) {
            return false;
        }
        remember();
        state.starts[w] = cell;
        return true;
    }

    boolean turn(int w) {
        if (!who(w)) {
            return false;
        }
        remember();
        state.rights[w] ^= true;
        return true;
    }

    boolean late(int w, int tenths) {
        if (!who(w) || tenths < 0 || tenths > 99) {
            return false;
        }
        remember();
        state.lates[w] = tenths;
        return true;
    }

    int take() {
        if (state.take == 60) {
            return -1;
        }
        remember();
        state.take++;
        state.lates = new int[8];
        return state.take;
    }

    boolean undo() {
        if (past.isEmpty()) {
            return false;
        }
        State s = past.pop();
        s.told = state.told;
        s.sights = state.sights;
        state = s;
        return true;
    }

    int judged(int what) {
        if (what < 0 || what > 2) {
            return -2;
        }
        State s = asTold();
        List<Integer> bad = new ArrayList<>();
        int good = 0;
        for (int i = 0; i < script.size(); i++) {
            String[] line = script.get(i);
            int w = Integer.parseInt(line[1]);
            int n = Integer.parseInt(line[2]);
            if (line[0].equals("start")) {
                s.starts[w] = n;
            } else if (line[0].equals("turn")) {
                s.rights[w] = !s.rights[w];
            } else if (line[0].equals("late")) {
                s.lates[w] = n;
            } else {
                if (good(ways(s, s.take, true))) {
                    good++;
                } else {
                    bad.add(i);
                }
                s.take++;
                s.lates = new int[8];
            }
        }
        return what == 0 ? bad.isEmpty() ? -1 : bad.get(0) : what == 1 ? good : s.take;
    }

    int where(int w, int t) {
        return who(w) && when(t) ? way(state, w, state.take, true)[t] : -1;
    }

    int seen(int w, int t) {
        if (!who(w) || !when(t)) {
            return -1;
        }
        if (!framed(where(w, t))) {
            return 0;
        }
        return ground.person(w).lane < ground.sharp ? 2 : 1;
    }

    int first(int one, int other) {
        if (!who(one) || !who(other) || one == other) {
            return -1;
        }
        int[][] ways = ways(state, state.take, true);
        for (int t = 0; t <= 600; t++) {
            if (bump(ways, one, other, t)) {
                return t;
            }
        }
        return -1;
    }

    boolean good() {
        return good(ways(state, state.take, true));
    }

    private int off(int must, int take, boolean late) {
        Must m = ground.musts.get(must);
        int cell = way(state, m.person, take, late)[ground.tenth(m.word)];
        return cell < 0 ? 100 : Math.abs(cell - m.cell);
    }

    int off(int must) {
        return must >= 0 && must < ground.musts.size() ? off(must, state.take, true) : -1;
    }

    int until(int must, int cells) {
        if (must < 0 || must >= ground.musts.size() || cells < 1 || cells > 100) {
            return -1;
        }
        for (int k = 0; k <= 60; k++) {
            if (off(must, state.take + k, k == 0) >= cells) {
                return k;
            }
        }
        return -1;
    }

    int unknown() {
        java.math.BigInteger top = java.math.BigInteger.valueOf(1000000);
        for (int i = 0; i < ground.people.size(); i++) {
            top = top.multiply(java.math.BigInteger.valueOf(10 - known(i)));
        }
        return top.divide(java.math.BigInteger.TEN.pow(ground.people.size())).intValue();
    }

    int lags(int bits, int what) {
        List<Integer> chosen = new ArrayList<>();
        for (int i = 0; i < 32; i++) {
            if ((bits >>> i & 1) == 1) {
                chosen.add(i);
            }
        }
        if (chosen.isEmpty() || chosen.size() > 4 || what < 0 || what > chosen.size()) {
            return -1;
        }
        for (int i : chosen) {
            if (!who(i)) {
                return -1;
            }
        }
        int n = chosen.size();
        int[][][] ways = new int[n][24][];
        for (int i = 0; i < n; i++) {
            for (int lag = 0; lag < 24; lag++) {
                ways[i][lag] = way(state, chosen.get(i), state.take, lag, 0);
            }
        }
        int[] best = null;
        int[] row = new int[n];
        best = tryLags(chosen, ways, row, 0, best);
        if (best == null) {
            return -1;
        }
        return what == 0 ? Arrays.stream(best).sum() : best[what - 1];
    }

    private int[] tryLags(List<Integer> chosen, int[][][] ways, int[] row, int i, int[] best) {
        if (i == row.length) {
            boolean better = best == null || Arrays.stream(row).sum() < Arrays.stream(best).sum();
            return better ? row.clone() : best;
        }
        for (int lag = 0; lag < 24; lag++) {
            row[i] = lag;
            boolean fits = true;
            for (Must m : ground.musts) {
                if (m.person == chosen.get(i) && ways[i][lag][ground.tenth(m.word)] != m.cell) {
                    fits = false;
                }
            }
            for (int j = 0; j < i && fits; j++) {
                if (ground.person(chosen.get(i)).lane == ground.person(chosen.get(j)).lane) {
                    for (int t = 0; t <= 600; t++) {
                        int cell = ways[i][lag][t];
                        if (cell >= 0 && cell == ways[j][row[j]][t]) {
                            fits = false;
                        }
                    }
                }
            }
            if (fits) {
                best = tryLags(chosen, ways, row, i + 1, best);
            }
        }
        return best;
    }

    int full(int many) {
        if (many < 0 || many > 8) {
            return -1;
        }
        List<Integer> fits = new ArrayList<>();
        int[][] ways = ways(state, state.take, true);
        for (int set = 0; set < 1 << ground.people.size(); set++) {
            boolean fit = true;
            for (int tenth : ground.words.values()) {
                int seen = 0;
                for (int i = 0; i < ways.length; i++) {
                    if ((set >> i & 1) == 1 && framed(ways[i][tenth])) {
                        seen++;
                    }
                }
                fit &= seen >= many;
            }
            if (fit) {
                fits.add(set);
            }
        }
        fits.sort((a, b) -> Integer.bitCount(a) != Integer.bitCount(b) ? Integer.bitCount(a) - Integer.bitCount(b) : a - b);
        return fits.isEmpty() ? -1 : fits.get(0);
    }

    private int jumpOf(int w, int take, int word, int otherTake, int otherWord) {
        int a = way(state, w, take, false)[ground.tenth(word)];
        int b = way(state, w, otherTake, false)[ground.tenth(otherWord)];
        if (framed(a) && framed(b)) {
            return Math.abs(a - b);
        }
        return framed(a) || framed(b) ? ground.high - ground.low + 1 : 0;
    }

    int jump(int w, int take, int word, int otherTake, int otherWord) {
        if (take < 0 || take > 60 || otherTake < 0 || otherTake > 60 || !word(word) || !word(otherWord)) {
            return -2;
        }
        if (w == -1) {
            int all = 0;
            for (int i = 0; i < ground.people.size(); i++) {
                all += jumpOf(i, take, word, otherTake, otherWord);
            }
            return all;
        }
        return who(w) ? jumpOf(w, take, word, otherTake, otherWord) : -2;
    }

    int best(int word, int what) {
        if (!word(word) || what < 0 || what > 2) {
            return -1;
        }
        List<int[]> cuts = new ArrayList<>();
        for (int a = 0; a <= 11; a++) {
            for (int b = a + 1; b <= 11; b++) {
                cuts.add(new int[] {jump(-1, a, word, b, word), a, b});
            }
        }
        cuts.sort((x, y) -> Arrays.compare(x, y));
        return cuts.get(0)[what];
    }

    long row(int lane, int t) {
        if (lane < 0 || lane >= ground.lanes || !when(t)) {
            return -1;
        }
        java.math.BigInteger bits = java.math.BigInteger.ZERO;
        for (int cell = 0; cell < ground.cells; cell++) {
            if (whose(cell, lane, t) != 0) {
                bits = bits.setBit(cell);
            }
        }
        return bits.longValue();
    }

    int wrong() {
        int bits = 0;
        for (int w = 0; w < ground.people.size(); w++) {
            boolean sharp = false;
            for (int tenth : ground.words.values()) {
                sharp |= seen(w, tenth) == 2;
            }
            bits |= sharp ? 0 : 1 << w;
        }
        return bits;
    }

    int change(int w, int cells) {
        if (!who(w) || cells < 0 || cells > 40) {
            return -1;
        }
        int bits = 0;
        for (int o = 0; o < ground.people.size(); o++) {
            boolean can = o != w && ground.person(o).kind.equals(ground.person(w).kind);
            for (int tenth : ground.words.values()) {
                boolean one = seen(w, tenth) > 0;
                boolean two = seen(o, tenth) > 0;
                if (one != two || one && Math.abs(where(w, tenth) - where(o, tenth)) > cells) {
                    can = false;
                }
            }
            bits |= can ? 1 << o : 0;
        }
        return bits;
    }

    int other(int w, int word, int what) {
        if (!who(w) || !word(word) || what < 0 || what > 1) {
            return -2;
        }
        if (what == 1) {
            return ground.lanes - ground.person(w).lane - 1;
        }
        int cell = where(w, ground.tenth(word));
        return framed(cell) ? ground.high - (cell - ground.low) : -1;
    }

    boolean tell(int take, int tenth) {
        if (take < 0 || take > 60 || !when(tenth) || state.told.size() == 10) {
            return false;
        }
        state.told.add(new int[] {take, tenth});
        return true;
    }

    int laws(int what) {
        if (what < -2 || what > 60) {
            throw new NoSuchElementException();
        }
        List<int[]> laws = new ArrayList<>();
        for (int b = 0; b <= 9; b++) {
            for (int a = 0; a <= 600; a++) {
                boolean holds = true;
                for (int[] t : state.told) {
                    holds &= t[1] == a - b * t[0];
                }
                if (holds) {
                    laws.add(new int[] {b, a});
                }
            }
        }
        if (what == -1) {
            return laws.size();
        }
        if (laws.isEmpty()) {
            throw new NoSuchElementException();
        }
        if (what == -2) {
            return laws.get(0)[0] * 1000 + laws.get(0)[1];
        }
        Set<Integer> tenths = new HashSet<>();
        for (int[] law : laws) {
            tenths.add(law[1] - law[0] * what);
        }
        if (tenths.size() != 1) {
            throw new NoSuchElementException();
        }
        return tenths.iterator().next();
    }

    int notes(int seconds) {
        if (seconds < 0 || seconds > 30 || ground.words.isEmpty()) {
            return -1;
        }
        int n = ground.people.size();
        int[] worth = new int[n];
        for (int i = 0; i < n; i++) {
            worth[i] = jumpOf(i, 0, 0, state.take, 0);
        }
        int best = 0;
        int most = -1;
        for (int set = (1 << n) - 1; set >= 0; set--) {
            int cost = 0;
            int sum = 0;
            for (int i = 0; i < n; i++) {
                if ((set >> i & 1) == 1) {
                    cost += 1 + ground.person(i).lane;
                    sum += worth[i];
                }
            }
            if (cost <= seconds && sum >= most) {
                most = sum;
                best = set;
            }
        }
        return best;
    }

    int whose(int cell, int lane, int t) {
        if (cell < 0 || cell >= ground.cells || lane < 0 || lane >= ground.lanes || !when(t)) {
            return -1;
        }
        int bits = 0;
        for (int w = 0; w < ground.people.size(); w++) {
            if (ground.person(w).lane == lane && where(w, t) == cell) {
                bits += 1 << w;
            }
        }
        return bits;
    }

    boolean sight(int t, int cell, boolean right) {
        if (!when(t) || cell < 0 || cell >= ground.cells || state.sights.size() == 10) {
            return false;
        }
        state.sights.add(new int[] {t, cell, right ? 1 : -1});
        return true;
    }

    private boolean oneMan(int[] a, int[] b) {
        if (a[2] != b[2]) {
            return false;
        }
        int d = (b[1] - a[1]) * a[2];
        int t = b[0] - a[0];
        boolean straight = d >= 1 && t >= d && t <= 9 * d;
        int r = d + ground.cells;
        boolean round = t >= r + ground.round && t <= 9 * r + ground.round;
        return straight || round;
    }

    int hired(int what) {
        int n = state.sights.size();
        if (what < -1 || what >= n) {
            return -2;
        }
        int[] best = new int[n];
        Arrays.fill(best, n);
        // Rows of next ones are compared with n for none, which so stands behind all numbers.
        best = tryNext(new int[n], 0, new boolean[n], best);
        int men = 0;
        for (int b : best) {
            men += b == n ? 1 : 0;
        }
        return what == -1 ? men : best[what] == n ? -1 : best[what];
    }

    private int[] tryNext(int[] row, int i, boolean[] used, int[] best) {
        int n = row.length;
        if (i == n) {
            int men = Collections.frequency(asList(row), n);
            int bestMen = Collections.frequency(asList(best), n);
            return men < bestMen || men == bestMen && Arrays.compare(row, best) < 0 ? row.clone() : best;
        }
        for (int j = 0; j < n; j++) {
            if (!used[j] && oneMan(state.sights.get(i), state.sights.get(j))) {
                used[j] = true;
                row[i] = j;
                best = tryNext(row, i + 1, used, best);
                used[j] = false;
            }
        }
        row[i] = n;
        return tryNext(row, i + 1, used, best);
    }

    private static List<Integer> asList(int[] row) {
        List<Integer> list = new ArrayList<>();
        for (int r : row) {
            list.add(r);
        }
        return list;
    }

    private long g;

    private int draw(int m) {
        g = (g * 1103515245L + 12345L) % 2147483648L;
        return (int) (g / 65536 % m);
    }

    int days(int seed, int takes, int what) {
        if (seed < 0 || seed > 9999 || takes < 1 || takes > 20 || what < 0 || what > 2) {
            return -1;
        }
        g = seed;
        State s = state.copy();
        int good = 0;
        List<Integer> missed = new ArrayList<>();
        for (int k = 0; k < takes; k++) {
            for (int w = 0; w < ground.people.size(); w++) {
                s.lates[w] = draw(10) < 2 ? draw(9) + 1 : 0;
            }
            int[][] ways = ways(s, state.take + k, true);
            good += good(ways) ? 1 : 0;
            missed.add(missed(ways));
        }
        int all = 0;
        for (int m : missed) {
            all += m;
        }
        return what == 0 ? good : what == 1 ? all : missed.indexOf(Collections.min(missed));
    }

    boolean mark(int mark, boolean back) {
        if (mark < 0 || mark > 3) {
            return false;
        }
        if (!back) {
            marks[mark] = state.copy();
            return true;
        }
        if (marks[mark] == null) {
            return false;
        }
        state = marks[mark].copy();
        past.clear();
        return true;
    }

    int count(int what) {
        int[] all = {ground.cells, ground.lanes, ground.words.size(), ground.people.size(), ground.musts.size(),
            state.take, script.size(), state.told.size(), state.sights.size(), past.size(), tape.length(),
            missed(ways(state, state.take, true))};
        return what < 0 || what > 11 ? -1 : all[what];
    }
}
