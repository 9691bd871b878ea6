import java.util.NoSuchElementException;
import java.util.Random;

/** Runs of calls, drawn by fixed seeds, held against Plain call by call. */
public final class PlainTest {
    /** What an object answers beyond its 512th call is free; no turn of the run makes more than 100 calls. */
    private static final int LAST_TURN = 512 - 100;
    private static final String[] KINDS = {"plain", "pram", "dog", "stray"};
    private static final String[] PIECES = {"street", "lanes", "frame", "to", "sharp", "say", "at", "walker", "lane",
        "from", "pace", "lag", "on", "must", "round", "quick", "odd", "start", "turn", "late", "take", "left",
        "right", "plain", "pram", "dog", "stray", "not", "and", "or", "wa", "pa", "tempo", "nth", "kind", "passes",
        "(", ")", "<", "=", "+", "-", "*", ";", ";", "0", "1", "9", "40", "41", "100", "601", "9999", "10000", "A",
        "!", "abcdefgh", "abcdefghi", "\n"};

    private final Random random;
    private final SamePassers real = new SamePassers();
    private final Plain plain = new Plain();
    private final StringBuilder log = new StringBuilder();
    private int made;
    private int words;
    private int people;
    private int cells = 4;
    private int lanes = 1;
    static int wrong = 0;
    static long calls = 0;
    static final int[] kinds = new int[16];
    static final int[] interesting = new int[40];

    private PlainTest(long seed) {
        random = new Random(seed);
    }

    public static void main(String[] args) {
        int runs = args.length > 0 ? Integer.parseInt(args[0]) : 180;
        int from = args.length > 1 ? Integer.parseInt(args[1]) : 0;
        for (int seed = from; seed < from + runs && wrong < 5; seed++) {
            PlainTest test = new PlainTest(seed);
            try {
                test.run(seed);
            } catch (RuntimeException e) {
                wrong++;
                System.out.println("seed " + seed + ": " + e + "\n" + test.log);
                e.printStackTrace(System.out);
            }
        }
        if (args.length > 0) {
            System.out.println(calls + " calls; faults by kind " + java.util.Arrays.toString(kinds)
                + "; answers beyond none by call " + java.util.Arrays.toString(interesting));
        }
        if (wrong > 0) {
            System.exit(1);
        }
        System.out.println("PlainTest: " + calls + " calls as due");
    }

    private void run(long seed) {
        for (int i = 0; i < 3 && wrong == 0; i++) {
            if (random.nextInt(4) > 0 && made < LAST_TURN) {
                readStreet(random.nextInt(3) == 0);
            }
            int many = 20 + random.nextInt(30);
            for (int k = 0; k < many && wrong == 0 && made < LAST_TURN; k++) {
                call(random.nextInt(34));
            }
        }
        if (made > 512) {
            wrong++;
            System.out.println("seed " + seed + " made " + made + " calls");
        }
        if (wrong > 0) {
            System.out.println("seed " + seed + "\n" + log);
        }
    }

    private int below(int n) {
        return random.nextInt(n);
    }

    /** Mostly 0 to n - 1, sometimes just outside, sometimes far. */
    private int about(int n) {
        int how = below(30);
        if (how == 0) {
            return -1;
        }
        if (how == 1) {
            return n;
        }
        if (how == 2) {
            return new int[] {Integer.MIN_VALUE, Integer.MAX_VALUE, -2, -3, 32, 64, 1000}[below(7)];
        }
        return n > 0 ? below(n) : 0;
    }

    private void same(String call, long got, long want) {
        calls++;
        made++;
        log.append(call).append(" -> ").append(got).append('\n');
        if (got != want) {
            wrong++;
            System.out.println(call + " answered " + got + ", due is " + want);
        }
    }

    private void feed(String text) {
        byte[] signs = text.getBytes(java.nio.charset.StandardCharsets.ISO_8859_1);
        for (int i = 0; i < signs.length; i += 24) {
            long[] parts = new long[3];
            for (int k = 0; k < 24; k++) {
                int sign = i + k < signs.length ? signs[i + k] & 255 : 0;
                parts[k / 8] = parts[k / 8] << 8 | sign;
            }
            same("feed", real.feed(parts[0], parts[1], parts[2]), plain.feed(parts[0], parts[1], parts[2]));
        }
    }

    private String expression(String[] facts, int depth) {
        StringBuilder e = new StringBuilder(part(facts, depth));
        int more = below(4);
        for (int i = 0; i < more; i++) {
            String[] signs = {"+", "-", "*", "<", "=", " and ", " or ", "+", "*", "-"};
            e.append(signs[below(signs.length)]).append(part(facts, depth));
        }
        return e.toString();
    }

    private String part(String[] facts, int depth) {
        int how = below(depth > 5 ? 5 : 8);
        if (how < 3) {
            return facts[below(2)];
        }
        if (how < 5) {
            return "" + below(below(5) == 0 ? 9999 : 12);
        }
        return how < 7 ? "(" + expression(facts, depth + 1) + ")" : " not " + part(facts, depth + 1);
    }

    private String streetText() {
        cells = 4 + below(below(2) == 0 ? 37 : 8);
        lanes = 1 + below(4);
        int low = below(cells);
        int high = low + below(cells - low);
        words = below(7);
        people = below(9);
        StringBuilder s = new StringBuilder("street " + cells + " lanes " + lanes + " frame " + low + " to " + high
            + " sharp " + below(lanes + 1) + ";");
        int sayNow = 0;
        int peopleNow = 0;
        while (sayNow < words || peopleNow < people) {
            if (sayNow < words && below(2) == 0) {
                s.append("say w").append((char) ('a' + sayNow++)).append(" at ").append(below(4) == 0 ? below(601) : below(80)).append(";");
            } else if (peopleNow < people) {
                s.append("walker p").append((char) ('a' + peopleNow++)).append(' ').append(KINDS[below(4)]).append(" lane ")
                    .append(below(lanes)).append(" from ").append(below(cells)).append(below(2) == 0 ? " left" : " right")
                    .append(" pace ").append(1 + below(9)).append(" lag ").append(below(below(3) == 0 ? 100 : 10));
                if (sayNow > 0 && below(2) == 0) {
                    s.append(" on w").append((char) ('a' + below(sayNow)));
                }
                s.append(";");
            }
        }
        if (words > 0 && people > 0) {
            int musts = below(4);
            for (int i = 0; i < musts; i++) {
                s.append("must p").append((char) ('a' + (i + below(2)) % people)).append(" w").append((char) ('a' + below(words)))
                    .append(' ').append(below(cells)).append(";");
            }
        }
        if (below(2) == 0) {
            s.append("round ").append(below(below(2) == 0 ? 3 : 100)).append(";");
        }
        if (below(2) == 0) {
            String[] usual = {"tempo+nth", "tempo - nth", "tempo + (2 < nth)", "tempo*2-nth", "tempo + nth * (3 < tempo)"};
            s.append("quick ").append(below(2) == 0 ? usual[below(5)] : expression(new String[] {"tempo", "nth"}, 0)).append(";");
        }
        if (below(2) == 0) {
            s.append("odd ").append(expression(new String[] {"kind", "passes"}, 0)).append(";");
        }
        return s.toString();
    }

    private String spoil(String text) {
        int at = below(text.length() + 1);
        String piece = PIECES[below(PIECES.length)];
        switch (below(5)) {
            case 0: return text.substring(0, at);
            case 1: return text.substring(0, at) + " " + piece + " " + text.substring(at);
            case 2: return text.substring(0, at) + text.substring(Math.min(text.length(), at + 1 + below(6)));
            case 3: {
                String[] parts = text.split("(?<=[; ])");
                parts[below(parts.length)] = piece + " ";
                return String.join("", parts);
            }
            default: {
                String[] lines = text.split("(?<=;)");
                return text + lines[below(lines.length)];
            }
        }
    }

    private void readStreet(boolean spoilt) {
        String text = streetText();
        if (spoilt) {
            text = spoil(text);
        }
        log.append(text).append('\n');
        feed(text);
        int want = plain.street();
        same("street", real.street(), want);
        kinds[want % 16]++;
    }

    private void readTakes() {
        StringBuilder s = new StringBuilder();
        int lines = below(10) == 0 ? 29 + below(4) : below(12);
        int who = Math.max(1, people);
        for (int i = 0; i < lines; i++) {
            switch (below(5)) {
                case 0: s.append("start p").append((char) ('a' + below(who))).append(' ').append(below(cells)).append(';'); break;
                case 1: s.append("turn p").append((char) ('a' + below(who))).append(';'); break;
                case 2: s.append("late p").append((char) ('a' + below(who))).append(' ').append(below(100)).append(';'); break;
                default: s.append("take;"); break;
            }
        }
        String text = below(3) == 0 ? spoil(s.toString()) : s.toString();
        log.append(text).append('\n');
        feed(text);
        int want = plain.takes();
        same("takes", real.takes(), want);
        kinds[want % 16]++;
        for (int what = -1; what < 4; what++) {
            same("judged(" + what + ")", real.judged(what), plain.judged(what));
        }
    }

    private static int asInt(boolean b) {
        return b ? 1 : 0;
    }

    private void call(int which) {
        int w = about(people);
        int o = about(people);
        int t = about(601);
        int word = about(words);
        long want;
        switch (which) {
            case 0: readTakes(); return;
            case 1: readStreet(below(2) == 0); return;
            case 2: case 3: {
                for (int what = -1; what < 11; what++) {
                    same("walker(" + w + "," + what + ")", real.walker(w, what), plain.walker(w, what));
                }
                return;
            }
            case 4: same("tenth(" + word + ")", real.tenth(word), plain.tenth(word)); return;
            case 5: { int c = about(cells); same("start(" + w + "," + c + ")", asInt(real.start(w, c)), asInt(plain.start(w, c))); return; }
            case 6: same("turn(" + w + ")", asInt(real.turn(w)), asInt(plain.turn(w))); return;
            case 7: { int n = about(100); same("late(" + w + "," + n + ")", asInt(real.late(w, n)), asInt(plain.late(w, n))); return; }
            case 8: {
                int many = below(8) == 0 ? 20 : 1;
                for (int i = 0; i < many; i++) {
                    same("take()", real.take(), plain.take());
                }
                return;
            }
            case 9: case 10: {
                int many = below(6) == 0 ? 18 : 1;
                for (int i = 0; i < many; i++) {
                    same("undo()", asInt(real.undo()), asInt(plain.undo()));
                }
                return;
            }
            case 11: { for (int i = 0; i < 20; i++) { t = about(601); same("where(" + w + "," + t + ")", real.where(w, t), plain.where(w, t)); } return; }
            case 12: want = plain.seen(w, t); same("seen(" + w + "," + t + ")", real.seen(w, t), want); break;
            case 13: want = plain.first(w, o); same("first(" + w + "," + o + ")", real.first(w, o), want); break;
            case 14: want = asInt(plain.good()); same("good()", asInt(real.good()), want); break;
            case 15: { int m = about(3); want = plain.off(m); same("off(" + m + ")", real.off(m), want); break; }
            case 16: { int m = about(3); int c = 1 + about(below(2) == 0 ? 10 : 100); want = plain.until(m, c); same("until(" + m + "," + c + ")", real.until(m, c), want); break; }
            case 17: want = plain.unknown(); same("unknown()", real.unknown(), want); break;
            case 18: {
                int bits = below(3) == 0 ? about(256) : about(Math.max(1, 1 << people));
                for (int what = -1; what < 6; what++) {
                    want = plain.lags(bits, what);
                    same("lags(" + bits + "," + what + ")", real.lags(bits, what), want);
                    interesting[18] += want > 0 ? 1 : 0;
                }
                return;
            }
            case 19: { int n = about(6); want = plain.full(n); same("full(" + n + ")", real.full(n), want); break; }
            case 20: {
                int a = about(61);
                int b = about(61);
                int word2 = about(words);
                want = plain.jump(w, a, word, b, word2);
                same("jump(" + w + "," + a + "," + word + "," + b + "," + word2 + ")", real.jump(w, a, word, b, word2), want);
                break;
            }
            case 21: { int what = about(3); want = plain.best(word, what); same("best(" + word + "," + what + ")", real.best(word, what), want); break; }
            case 22: { int l = about(lanes); want = plain.row(l, t); same("row(" + l + "," + t + ")", real.row(l, t), want); break; }
            case 23: want = plain.wrong(); same("wrong()", real.wrong(), want); break;
            case 24: { int c = about(41); want = plain.change(w, c); same("change(" + w + "," + c + ")", real.change(w, c), want); break; }
            case 25: { int what = about(2); want = plain.other(w, word, what); same("other(" + w + "," + word + "," + what + ")", real.other(w, word, what), want); break; }
            case 26: tellSome(); return;
            case 27: { int n = about(31); want = plain.notes(n); same("notes(" + n + ")", real.notes(n), want); break; }
            case 28: { int c = about(cells); int l = about(lanes); want = plain.whose(c, l, t); same("whose(" + c + "," + l + "," + t + ")", real.whose(c, l, t), want); break; }
            case 29: sightSome(); return;
            case 30: {
                int seed = about(10000);
                int takes = 1 + about(20);
                for (int what = -1; what < 4; what++) {
                    want = plain.days(seed, takes, what);
                    same("days(" + seed + "," + takes + "," + what + ")", real.days(seed, takes, what), want);
                    interesting[30] += want > 0 ? 1 : 0;
                }
                return;
            }
            case 31: { int m = about(4); boolean back = below(2) == 0; same("mark(" + m + "," + back + ")", asInt(real.mark(m, back)), asInt(plain.mark(m, back))); return; }
            case 32: { for (int what = -1; what < 13; what++) { same("count(" + what + ")", real.count(what), plain.count(what)); } return; }
            default: {
                long a = random.nextLong();
                long b = random.nextLong();
                long c = random.nextLong();
                int many = below(20) == 0 ? 90 : 1;
                for (int i = 0; i < many; i++) {
                    same("feed(" + a + "," + b + "," + c + ")", real.feed(a, b, c), plain.feed(a, b, c));
                }
                return;
            }
        }
        interesting[which] += want > 0 ? 1 : 0;
    }

    private void tellSome() {
        int a = below(601);
        int b = below(10);
        int many = below(4);
        for (int i = 0; i < many; i++) {
            int take = about(below(2) == 0 ? 61 : 8);
            int tenth = below(20) == 0 ? about(601) : a - b * take;
            same("tell(" + take + "," + tenth + ")", asInt(real.tell(take, tenth)), asInt(plain.tell(take, tenth)));
        }
        for (int i = 0; i < 6; i++) {
            int what = i < 4 ? i - 3 : about(61);
            long got;
            long want;
            try {
                want = plain.laws(what);
            } catch (NoSuchElementException e) {
                want = Long.MIN_VALUE;
            }
            try {
                got = real.laws(what);
            } catch (NoSuchElementException e) {
                got = Long.MIN_VALUE;
            }
            same("laws(" + what + ")", got, want);
            interesting[26] += want > 0 ? 1 : 0;
        }
    }

    private void sightSome() {
        int many = below(6);
        for (int i = 0; i < many; i++) {
            int t = about(below(2) == 0 ? 601 : 150);
            int c = about(cells);
            boolean right = below(4) > 0;
            same("sight(" + t + "," + c + "," + right + ")", asInt(real.sight(t, c, right)), asInt(plain.sight(t, c, right)));
        }
        for (int what = -2; what < 11; what++) {
            long want = plain.hired(what);
            same("hired(" + what + ")", real.hired(what), want);
            interesting[29] += want > 0 ? 1 : 0;
        }
    }
}
