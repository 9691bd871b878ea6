import java.util.Arrays;
import java.util.NoSuchElementException;

/**
 * Passers-by hired to walk behind a scene, take after take: a street told in a language,
 * where each of them is at a tenth of a second, and what follows from it for the cut.
 */
public final class SamePassers {
    public static final int NONE = -1;

    private static final int OTHERS = -2;
    private static final int LAST_TENTH = 600;
    private static final int LAST_TAKE = 60;
    private static final int MOST_LATE = 99;
    private static final int MOST_WALKERS = 8;
    private static final int MOST_WORDS = 6;
    private static final int MOST_MUSTS = 8;
    private static final int MOST_LANES = 4;
    private static final int MOST_CELLS = 40;
    private static final int MOST_LINES = 30;
    private static final int MOST_UNDONE = 16;
    private static final int MOST_PAPERS = 10;
    private static final int MARKS = 4;
    private static final int OFF_IF_GONE = 100;
    private static final int BEST_TAKES = 12;
    private static final int BEYOND_JUMPS = MOST_WALKERS * MOST_CELLS + 1;
    private static final int MOST_SECONDS = 30;
    private static final int MOST_DAYS = 20;
    private static final int LAST_SEED = 9999;
    private static final int TAPE_SIGNS = 1000;

    private final Tape tape = new Tape();
    private Street street = new Street();
    private Street draftStreet = new Street();
    private Script script = new Script();
    private Script draftScript = new Script();
    private final Reader reader = new Reader(tape, draftStreet, draftScript);
    private final Hands hands = new Hands();
    private final Hands trial = new Hands();
    private final Papers papers = new Papers();
    private final Hands[] past = new Hands[MOST_UNDONE];
    private int pastCount;
    private int pastEnd;
    private final Hands[] markedHands = new Hands[MARKS];
    private final Papers[] markedPapers = new Papers[MARKS];
    private int markedBits;
    private final Walks now = new Walks(street);
    private final Walks here = new Walks(street);
    private final LagSearch lagSearch = new LagSearch(street);
    private final Film film = new Film();

    public SamePassers() {
        for (int i = 0; i < MOST_UNDONE; i++) {
            past[i] = new Hands();
        }
        for (int i = 0; i < MARKS; i++) {
            markedHands[i] = new Hands();
            markedPapers[i] = new Papers();
        }
    }

    public int feed(long a, long b, long c) {
        tape.add(a);
        tape.add(b);
        tape.add(c);
        return tape.length;
    }

    public int street() {
        int fault = reader.readStreet(draftStreet);
        if (fault == 0) {
            Street old = street;
            street = draftStreet;
            draftStreet = old;
            beginStreet();
        }
        return fault;
    }

    public int takes() {
        int fault = reader.readTakes(street, draftScript);
        if (fault == 0) {
            Script old = script;
            script = draftScript;
            draftScript = old;
        }
        return fault;
    }

    public int walker(int walker, int what) {
        if (!isWalker(walker)) {
            return NONE;
        }
        Walker told = street.walkers[walker];
        switch (what) {
            case 0: return told.kind;
            case 1: return told.lane;
            case 2: return hands.starts[walker];
            case 3: return hands.rights[walker];
            case 4: return now.tempos[walker];
            case 5: return told.lag;
            case 6: return told.word;
            case 7: return hands.lates[walker];
            case 8: return now.passesOf(walker);
            case 9: return now.knownOf(walker);
            default: return NONE;
        }
    }

    public int tenth(int word) {
        return isWord(word) ? street.wordTenths[word] : NONE;
    }

    public boolean start(int walker, int cell) {
        if (!isWalker(walker) || !isCell(cell)) {
            return false;
        }
        remember();
        hands.starts[walker] = cell;
        setNow();
        return true;
    }

    public boolean turn(int walker) {
        if (!isWalker(walker)) {
            return false;
        }
        remember();
        hands.rights[walker] = 1 - hands.rights[walker];
        setNow();
        return true;
    }

    public boolean late(int walker, int tenths) {
        if (!isWalker(walker) || tenths < 0 || tenths > MOST_LATE) {
            return false;
        }
        remember();
        hands.lates[walker] = tenths;
        setNow();
        return true;
    }

    public int take() {
        if (hands.take >= LAST_TAKE) {
            return NONE;
        }
        remember();
        hands.goOn();
        setNow();
        return hands.take;
    }

    public boolean undo() {
        if (pastCount <= 0) {
            return false;
        }
        pastCount--;
        pastEnd = pastEnd > 0 ? pastEnd - 1 : MOST_UNDONE - 1;
        hands.copyFrom(past[pastEnd]);
        setNow();
        return true;
    }

    public int judged(int what) {
        if (what < 0 || what > 2) {
            return OTHERS;
        }
        trial.asTold(street);
        int badLine = NONE;
        int good = 0;
        for (int line = 0; line < script.count; line++) {
            if (script.acts[line] == Tape.TAKE) {
                here.set(street, trial, trial.take, true);
                if (here.isGood()) {
                    good++;
                } else if (badLine == NONE) {
                    badLine = line;
                }
            }
            script.play(line, trial);
        }
        return what == 0 ? badLine : what == 1 ? good : trial.take;
    }

    public int where(int walker, int tenth) {
        return isWalker(walker) && isTenth(tenth) ? now.cellOf(walker, tenth) : NONE;
    }

    public int seen(int walker, int tenth) {
        return isWalker(walker) && isTenth(tenth) ? now.sharpness(walker, tenth) : NONE;
    }

    public int first(int one, int other) {
        if (!isWalker(one) || !isWalker(other) || one == other) {
            return NONE;
        }
        return now.firstBump(one, other);
    }

    public boolean good() {
        return now.isGood();
    }

    public int off(int must) {
        return isMust(must) ? now.offOf(must) : NONE;
    }

    public int until(int must, int cells) {
        if (!isMust(must) || cells < 1 || cells > OFF_IF_GONE) {
            return NONE;
        }
        for (int ahead = 0; ahead <= LAST_TAKE; ahead++) {
            here.set(street, hands, hands.take + ahead, ahead == 0);
            if (here.offOf(must) >= cells) {
                return ahead;
            }
        }
        return NONE;
    }

    public int unknown() {
        // The product stays whole till the end, so that it is cut but once.
        long chance = 1000000;
        long whole = 1;
        for (int walker = 0; walker < street.walkerCount; walker++) {
            chance = chance * (10 - now.knownOf(walker));
            whole = whole * 10;
        }
        return whole > 0 ? (int) (chance / whole) : 0;
    }

    public int lags(int walkers, int what) {
        int many = Integer.bitCount(walkers);
        if (!areWalkers(walkers) || many < 1 || many > LagSearch.MOST || what < 0 || what > many) {
            return NONE;
        }
        here.set(street, hands, hands.take, false);
        if (!lagSearch.find(street, here, walkers)) {
            return NONE;
        }
        return what == 0 ? lagSearch.bestSum : lagSearch.best[what - 1];
    }

    public int full(int many) {
        if (many < 0 || many > MOST_WALKERS) {
            return NONE;
        }
        int best = NONE;
        int fewest = MOST_WALKERS + 1;
        int sets = 1 << street.walkerCount;
        long seen = seenOnWords();
        for (int set = 0; set < sets; set++) {
            int size = Integer.bitCount(set);
            if (size < fewest && fills(set, many, seen)) {
                fewest = size;
                best = set;
            }
        }
        return best;
    }

    public int jump(int walker, int take, int word, int otherTake, int otherWord) {
        boolean takesFit = isTake(take) && isTake(otherTake);
        if (!takesFit || !isWord(word) || !isWord(otherWord) || walker != NONE && !isWalker(walker)) {
            return OTHERS;
        }
        shoot(0, take, word);
        shoot(1, otherTake, otherWord);
        return walker == NONE ? film.allJumps(street, 0, 1) : film.jumpOf(street, walker, 0, 1);
    }

    public int best(int word, int what) {
        if (!isWord(word) || what < 0 || what > 2) {
            return NONE;
        }
        int least = BEYOND_JUMPS;
        int bestOne = 0;
        int bestOther = 0;
        for (int shot = 0; shot < BEST_TAKES; shot++) {
            shoot(shot, shot, word);
        }
        for (int one = 0; one < BEST_TAKES; one++) {
            for (int other = one + 1; other < BEST_TAKES; other++) {
                int jumps = film.allJumps(street, one, other);
                if (jumps < least) {
                    least = jumps;
                    bestOne = one;
                    bestOther = other;
                }
            }
        }
        return what == 0 ? least : what == 1 ? bestOne : bestOther;
    }

    public long row(int lane, int tenth) {
        if (!isLane(lane) || !isTenth(tenth)) {
            return NONE;
        }
        long cells = 0;
        for (int walker = 0; walker < street.walkerCount; walker++) {
            int cell = now.cellOf(walker, tenth);
            if (cell >= 0 && street.walkers[walker].lane == lane) {
                cells |= 1L << cell;
            }
        }
        return cells;
    }

    public int wrong() {
        int bits = 0;
        for (int walker = 0; walker < street.walkerCount; walker++) {
            boolean sharp = false;
            for (int word = 0; word < street.wordCount; word++) {
                sharp = sharp || now.sharpness(walker, street.wordTenths[word]) == 2;
            }
            if (!sharp) {
                bits |= 1 << walker;
            }
        }
        return bits;
    }

    public int change(int walker, int cells) {
        if (!isWalker(walker) || cells < 0 || cells > MOST_CELLS) {
            return NONE;
        }
        int bits = 0;
        for (int other = 0; other < street.walkerCount; other++) {
            if (other != walker && canStandFor(walker, other, cells)) {
                bits |= 1 << other;
            }
        }
        return bits;
    }

    public int other(int walker, int word, int what) {
        if (!isWalker(walker) || !isWord(word) || what < 0 || what > 1) {
            return OTHERS;
        }
        if (what == 1) {
            return street.lanes - 1 - street.walkers[walker].lane;
        }
        int cell = now.seenCell(walker, street.wordTenths[word]);
        return cell == NONE ? NONE : street.frameFrom + street.frameTo - cell;
    }

    public boolean tell(int take, int tenth) {
        if (!isTake(take) || !isTenth(tenth)) {
            return false;
        }
        return papers.addTold(take, tenth);
    }

    public int laws(int what) throws NoSuchElementException {
        if (what < OTHERS || what > LAST_TAKE) {
            throw new NoSuchElementException("no such take");
        }
        papers.seekLaws(Math.max(what, 0));
        if (what == NONE) {
            return papers.lawCount;
        }
        if (papers.lawCount == 0) {
            throw new NoSuchElementException("no law");
        }
        if (what == OTHERS) {
            return papers.firstLaw;
        }
        if (!papers.lawsAgree) {
            throw new NoSuchElementException("the laws do not agree");
        }
        return papers.lawTenth;
    }

    public int notes(int seconds) {
        if (seconds < 0 || seconds > MOST_SECONDS || street.wordCount == 0) {
            return NONE;
        }
        shoot(0, 0, 0);
        shoot(1, hands.take, 0);
        int best = 0;
        int most = 0;
        int sets = 1 << street.walkerCount;
        for (int set = 1; set < sets; set++) {
            if (secondsOf(set) <= seconds) {
                int worth = worthOf(set);
                if (worth > most) {
                    most = worth;
                    best = set;
                }
            }
        }
        return best;
    }

    public int whose(int cell, int lane, int tenth) {
        if (!isCell(cell) || !isLane(lane) || !isTenth(tenth)) {
            return NONE;
        }
        int bits = 0;
        for (int walker = 0; walker < street.walkerCount; walker++) {
            if (street.walkers[walker].lane == lane && now.cellOf(walker, tenth) == cell) {
                bits |= 1 << walker;
            }
        }
        return bits;
    }

    public boolean sight(int tenth, int cell, boolean right) {
        if (!isTenth(tenth) || !isCell(cell)) {
            return false;
        }
        return papers.addSight(tenth, cell, right);
    }

    public int hired(int what) {
        if (what < NONE || what >= papers.sightCount) {
            return OTHERS;
        }
        int pairs = film.findNext(papers, street);
        return what == NONE ? papers.sightCount - pairs : film.next[what];
    }

    public int days(int seed, int takes, int what) {
        boolean fits = seed >= 0 && seed <= LAST_SEED && takes >= 1 && takes <= MOST_DAYS;
        if (!fits || what < 0 || what > 2) {
            return NONE;
        }
        int good = 0;
        int missed = 0;
        int best = 0;
        int fewest = MOST_MUSTS + 1;
        long draw = seed;
        trial.copyFrom(hands);
        for (int ahead = 0; ahead < takes; ahead++) {
            draw = drawLates(draw);
            here.set(street, trial, hands.take + ahead, true);
            int missedNow = here.missedMusts();
            missed += missedNow;
            if (missedNow < fewest) {
                fewest = missedNow;
                best = ahead;
            }
            if (missedNow == 0 && what == 0 && !here.anyBump()) {
                good++;
            }
        }
        return what == 0 ? good : what == 1 ? missed : best;
    }

    public boolean mark(int mark, boolean back) {
        if (mark < 0 || mark >= MARKS || back && (markedBits >> mark & 1) == 0) {
            return false;
        }
        if (back) {
            hands.copyFrom(markedHands[mark]);
            papers.copyFrom(markedPapers[mark]);
            forgetPast();
            setNow();
        } else {
            markedHands[mark].copyFrom(hands);
            markedPapers[mark].copyFrom(papers);
            markedBits |= 1 << mark;
        }
        return true;
    }

    public int count(int what) {
        switch (what) {
            case 0: return street.cells;
            case 1: return street.lanes;
            case 2: return street.wordCount;
            case 3: return street.walkerCount;
            case 4: return street.mustCount;
            case 5: return hands.take;
            case 6: return script.count;
            case 7: return papers.toldCount;
            case 8: return papers.sightCount;
            case 9: return pastCount;
            case 10: return tape.length;
            case 11: return now.missedMusts();
            default: return NONE;
        }
    }

    private boolean isWalker(int walker) {
        return walker >= 0 && walker < street.walkerCount;
    }

    private boolean areWalkers(int bits) {
        return bits >= 0 && bits < 1 << street.walkerCount;
    }

    private boolean isWord(int word) {
        return word >= 0 && word < street.wordCount;
    }

    private boolean isMust(int must) {
        return must >= 0 && must < street.mustCount;
    }

    private boolean isCell(int cell) {
        return cell >= 0 && cell < street.cells;
    }

    private boolean isLane(int lane) {
        return lane >= 0 && lane < street.lanes;
    }

    private static boolean isTenth(int tenth) {
        return tenth >= 0 && tenth <= LAST_TENTH;
    }

    private static boolean isTake(int take) {
        return take >= 0 && take <= LAST_TAKE;
    }

    private void beginStreet() {
        hands.asTold(street);
        script.count = 0;
        papers.toldCount = 0;
        papers.sightCount = 0;
        markedBits = 0;
        forgetPast();
        setNow();
    }

    // The oldest of the ring is written over when it is full: only the last ones can be undone.
    private void remember() {
        past[pastEnd].copyFrom(hands);
        pastEnd = pastEnd < MOST_UNDONE - 1 ? pastEnd + 1 : 0;
        pastCount = Math.min(pastCount + 1, MOST_UNDONE);
    }

    private void forgetPast() {
        pastCount = 0;
        pastEnd = 0;
    }

    // The tempos cost a reading of the law each, so they are kept till something changes.
    private void setNow() {
        now.set(street, hands, hands.take, true);
    }

    // Eight bits a word, of the WALKERS that are SEEN on it.
    private long seenOnWords() {
        long seen = 0;
        for (int word = 0; word < street.wordCount; word++) {
            for (int walker = 0; walker < street.walkerCount; walker++) {
                if (now.seenCell(walker, street.wordTenths[word]) != NONE) {
                    seen |= 1L << word * MOST_WALKERS + walker;
                }
            }
        }
        return seen;
    }

    private boolean fills(int set, int many, long seen) {
        for (int word = 0; word < street.wordCount; word++) {
            int seenNow = (int) (seen >> word * MOST_WALKERS) & set;
            if (Integer.bitCount(seenNow) < many) {
                return false;
            }
        }
        return true;
    }

    private void shoot(int shot, int take, int word) {
        here.set(street, hands, take, false);
        film.shoot(shot, here, street, street.wordTenths[word]);
    }

    private boolean canStandFor(int walker, int other, int cells) {
        if (street.walkers[walker].kind != street.walkers[other].kind) {
            return false;
        }
        for (int word = 0; word < street.wordCount; word++) {
            int cell = now.seenCell(walker, street.wordTenths[word]);
            int otherCell = now.seenCell(other, street.wordTenths[word]);
            boolean bothSeen = cell != NONE && otherCell != NONE;
            if (bothSeen ? Math.abs(cell - otherCell) > cells : cell != otherCell) {
                return false;
            }
        }
        return true;
    }

    private int secondsOf(int set) {
        int seconds = 0;
        for (int walker = 0; walker < street.walkerCount; walker++) {
            if ((set >> walker & 1) != 0) {
                seconds += 1 + street.walkers[walker].lane;
            }
        }
        return seconds;
    }

    private int worthOf(int set) {
        int worth = 0;
        for (int walker = 0; walker < street.walkerCount; walker++) {
            if ((set >> walker & 1) != 0) {
                worth += film.jumpOf(street, walker, 0, 1);
            }
        }
        return worth;
    }

    private long drawLates(long seed) {
        long draw = seed;
        for (int walker = 0; walker < street.walkerCount; walker++) {
            int late = 0;
            draw = nextDraw(draw);
            if (draw / 65536 % 10 <= 1) {
                draw = nextDraw(draw);
                late = (int) (draw / 65536 % 9) + 1;
            }
            trial.lates[walker] = late;
        }
        return draw;
    }

    private static long nextDraw(long draw) {
        return (draw * 1103515245L + 12345L) % 2147483648L;
    }

    /** The TAPE, and the token that its reading has come to. */
    private static final class Tape {
        static final int STREET = 0;
        static final int LANES = 1;
        static final int FRAME = 2;
        static final int TO = 3;
        static final int SHARP = 4;
        static final int SAY = 5;
        static final int AT = 6;
        static final int WALKER = 7;
        static final int LANE = 8;
        static final int FROM = 9;
        static final int PACE = 10;
        static final int LAG = 11;
        static final int ON = 12;
        static final int MUST = 13;
        static final int ROUND = 14;
        static final int QUICK = 15;
        static final int ODD = 16;
        static final int START = 17;
        static final int TURN = 18;
        static final int LATE = 19;
        static final int TAKE = 20;
        static final int LEFT = 21;
        static final int RIGHT = 22;
        static final int PLAIN = 23;
        static final int STRAY = 26;
        static final int NOT = 27;
        static final int AND = 28;
        static final int OR = 29;
        static final int NAME = 30;
        static final int NUMBER = 31;
        // A sign's type is the sign itself (40 to 61), so these two stand beyond all signs.
        static final int NO_TOKEN = 127;
        static final int END = 128;

        private static final int KEYWORDS = 30;
        // In the order of the types above; each ends with a blank.
        private static final String KEYWORD_TEXT = "street lanes frame to sharp say at walker lane from pace lag on must round quick odd start turn late take left right plain pram dog stray not and or ";
        private static final String SIGNS = "()<=+-*;";
        // A WORD is kept as a number with a digit for each letter, so that no text is made.
        private static final int LETTERS = 27;
        private static final int BEFORE_LETTERS = 'a' - 1;
        private static final int LONGEST_WORD = 8;
        private static final int LONGEST_NUMBER = 4;

        private final char[] signs = new char[TAPE_SIGNS];
        private final long[] keywords = new long[KEYWORDS];
        private int next;
        int length;
        int type;
        int place;
        int number;
        long word;

        Tape() {
            int keyword = 0;
            for (int i = 0; i < KEYWORD_TEXT.length() && keyword < KEYWORDS; i++) {
                char sign = KEYWORD_TEXT.charAt(i);
                if (sign == ' ') {
                    keyword++;
                } else {
                    keywords[keyword] = keywords[keyword] * LETTERS + (sign - BEFORE_LETTERS);
                }
            }
        }

        static long asWord(String text) {
            long word = 0;
            for (int i = 0; i < text.length(); i++) {
                word = word * LETTERS + (text.charAt(i) - BEFORE_LETTERS);
            }
            return word;
        }

        void add(long eight) {
            for (int shift = 56; shift >= 0; shift -= 8) {
                int sign = (int) (eight >>> shift) & 255;
                boolean fits = sign == 10 || sign >= 32 && sign <= 126;
                if (fits && length < signs.length) {
                    signs[length] = (char) sign;
                    length++;
                }
            }
        }

        void rewind() {
            next = 0;
            step();
        }

        void empty() {
            length = 0;
        }

        void step() {
            while (next < length && (signs[next] == 10 || signs[next] == 32)) {
                next++;
            }
            place = next;
            if (next >= length) {
                type = END;
                return;
            }
            char sign = signs[next];
            if (sign >= 'a' && sign <= 'z') {
                stepWord();
            } else if (sign >= '0' && sign <= '9') {
                stepNumber();
            } else {
                next++;
                type = SIGNS.indexOf(sign) < 0 ? NO_TOKEN : sign;
            }
        }

        private void stepWord() {
            word = 0;
            while (next < length && signs[next] >= 'a' && signs[next] <= 'z') {
                word = word * LETTERS + (signs[next] - BEFORE_LETTERS);
                next++;
            }
            if (next - place > LONGEST_WORD) {
                type = NO_TOKEN;
                return;
            }
            type = NAME;
            for (int keyword = 0; keyword < KEYWORDS && type == NAME; keyword++) {
                if (keywords[keyword] == word) {
                    type = keyword;
                }
            }
        }

        private void stepNumber() {
            number = 0;
            while (next < length && signs[next] >= '0' && signs[next] <= '9') {
                number = number * 10 + (signs[next] - '0');
                next++;
            }
            type = next - place > LONGEST_NUMBER ? NO_TOKEN : NUMBER;
        }
    }

    /** Reads a STREET and TAKES from the TAPE, up to the first FAULT. */
    private static final class Reader {
        private static final int UNFIT = 1;
        private static final int UNTOLD = 2;
        private static final int TWICE = 3;
        private static final int BAD_NUMBER = 4;
        private static final int TOO_MANY = 5;

        private static final int DEEPEST = 5;
        private static final int LEVEL_COMPARE = 1;
        private static final int LEVEL_PART = 4;

        private final Tape tape;
        private Street street;
        private Script script;
        private int fault;
        private int number;
        private int index;
        private long name;

        Reader(Tape tape, Street street, Script script) {
            this.tape = tape;
            this.street = street;
            this.script = script;
        }

        int readStreet(Street draft) {
            street = draft;
            street.clear();
            fault = 0;
            tape.rewind();
            boolean well = readGround();
            for (int line = 0; well && line < TAPE_SIGNS && tape.type != Tape.END; line++) {
                switch (tape.type) {
                    case Tape.SAY: well = readSay(); break;
                    case Tape.WALKER: well = readWalker(); break;
                    case Tape.MUST: well = readMust(); break;
                    case Tape.ROUND: well = readRound(); break;
                    case Tape.QUICK: well = readLaw(street.quick); break;
                    case Tape.ODD: well = readLaw(street.odd); break;
                    default: well = fail(UNFIT); break;
                }
                well = well && readToken(';');
            }
            tape.empty();
            return fault;
        }

        int readTakes(Street told, Script draft) {
            street = told;
            script = draft;
            script.count = 0;
            fault = 0;
            tape.rewind();
            boolean well = true;
            for (int line = 0; well && line < TAPE_SIGNS && tape.type != Tape.END; line++) {
                well = readTakesLine();
            }
            tape.empty();
            return fault;
        }

        private boolean fail(int kind) {
            fault = kind + 16 * tape.place;
            return false;
        }

        private boolean readToken(int type) {
            if (tape.type != type) {
                return fail(UNFIT);
            }
            tape.step();
            return true;
        }

        private boolean readNumber(int least, int most) {
            if (tape.type != Tape.NUMBER) {
                return fail(UNFIT);
            }
            if (tape.number < least || tape.number > most) {
                return fail(BAD_NUMBER);
            }
            number = tape.number;
            tape.step();
            return true;
        }

        private boolean readNumberBehind(int type, int least, int most) {
            return readToken(type) && readNumber(least, most);
        }

        private boolean readNewName() {
            if (tape.type != Tape.NAME) {
                return fail(UNFIT);
            }
            if (street.findWord(tape.word) != NONE || street.findWalker(tape.word) != NONE) {
                return fail(TWICE);
            }
            name = tape.word;
            tape.step();
            return true;
        }

        private boolean readWalkerName() {
            if (tape.type != Tape.NAME) {
                return fail(UNFIT);
            }
            index = street.findWalker(tape.word);
            if (index == NONE) {
                return fail(UNTOLD);
            }
            tape.step();
            return true;
        }

        // Does not step behind the name: of must it can still be wrong in another way.
        private boolean seeWordName() {
            if (tape.type != Tape.NAME) {
                return fail(UNFIT);
            }
            index = street.findWord(tape.word);
            return index != NONE || fail(UNTOLD);
        }

        private boolean readGround() {
            if (!readNumberBehind(Tape.STREET, 4, MOST_CELLS)) {
                return false;
            }
            street.cells = number;
            if (!readNumberBehind(Tape.LANES, 1, MOST_LANES)) {
                return false;
            }
            street.lanes = number;
            if (!readNumberBehind(Tape.FRAME, 0, street.cells - 1)) {
                return false;
            }
            street.frameFrom = number;
            if (!readNumberBehind(Tape.TO, street.frameFrom, street.cells - 1)) {
                return false;
            }
            street.frameTo = number;
            if (!readNumberBehind(Tape.SHARP, 0, street.lanes)) {
                return false;
            }
            street.sharp = number;
            return readToken(';');
        }

        private boolean readSay() {
            if (street.wordCount >= MOST_WORDS) {
                return fail(TOO_MANY);
            }
            tape.step();
            if (!readNewName() || !readNumberBehind(Tape.AT, 0, LAST_TENTH)) {
                return false;
            }
            street.wordNames[street.wordCount] = name;
            street.wordTenths[street.wordCount] = number;
            street.wordCount++;
            return true;
        }

        private boolean readWalker() {
            if (street.walkerCount >= MOST_WALKERS) {
                return fail(TOO_MANY);
            }
            tape.step();
            Walker walker = street.walkers[street.walkerCount];
            boolean well = readNewName() && readKind(walker) && readPlace(walker) && readGait(walker)
                && readCue(walker);
            if (well) {
                walker.name = name;
                street.walkerCount++;
            }
            return well;
        }

        private boolean readKind(Walker walker) {
            if (tape.type < Tape.PLAIN || tape.type > Tape.STRAY) {
                return fail(UNFIT);
            }
            walker.kind = tape.type - Tape.PLAIN;
            tape.step();
            return true;
        }

        private boolean readPlace(Walker walker) {
            if (!readNumberBehind(Tape.LANE, 0, street.lanes - 1)) {
                return false;
            }
            walker.lane = number;
            if (!readNumberBehind(Tape.FROM, 0, street.cells - 1)) {
                return false;
            }
            walker.from = number;
            if (tape.type != Tape.LEFT && tape.type != Tape.RIGHT) {
                return fail(UNFIT);
            }
            walker.right = tape.type == Tape.RIGHT ? 1 : 0;
            tape.step();
            return true;
        }

        private boolean readGait(Walker walker) {
            if (!readNumberBehind(Tape.PACE, 1, 9)) {
                return false;
            }
            walker.pace = number;
            if (!readNumberBehind(Tape.LAG, 0, MOST_LATE)) {
                return false;
            }
            walker.lag = number;
            return true;
        }

        private boolean readCue(Walker walker) {
            walker.word = NONE;
            if (tape.type != Tape.ON) {
                return true;
            }
            tape.step();
            if (!seeWordName()) {
                return false;
            }
            walker.word = index;
            tape.step();
            return true;
        }

        private boolean readMust() {
            if (street.mustCount >= MOST_MUSTS) {
                return fail(TOO_MANY);
            }
            tape.step();
            if (!readWalkerName()) {
                return false;
            }
            int walker = index;
            if (!seeWordName()) {
                return false;
            }
            int word = index;
            if (street.hasMust(walker, word)) {
                return fail(TWICE);
            }
            tape.step();
            if (!readNumber(0, street.cells - 1)) {
                return false;
            }
            street.addMust(walker, word, number);
            return true;
        }

        private boolean readRound() {
            if (street.roundTold) {
                return fail(TWICE);
            }
            if (!readNumberBehind(Tape.ROUND, 0, MOST_LATE)) {
                return false;
            }
            street.round = number;
            street.roundTold = true;
            return true;
        }

        private boolean readLaw(Law law) {
            if (law.told) {
                return fail(TWICE);
            }
            tape.step();
            law.clear();
            law.told = true;
            return readLevel(law, 0, 0);
        }

        // A level's signs bind its parts, which are of the next level, from the left.
        private boolean readLevel(Law law, int level, int depth) {
            if (level >= LEVEL_PART) {
                return readPart(law, depth);
            }
            if (!readLevel(law, level + 1, depth)) {
                return false;
            }
            int most = level == LEVEL_COMPARE ? 1 : TAPE_SIGNS;
            for (int i = 0; i < most && levelOf(tape.type) == level; i++) {
                int act = actOf(tape.type);
                tape.step();
                if (!readLevel(law, level + 1, depth)) {
                    return false;
                }
                law.add(act);
            }
            return true;
        }

        private boolean readPart(Law law, int depth) {
            int part = partOf(law);
            if (part == NONE) {
                return fail(UNFIT);
            }
            if (depth >= DEEPEST) {
                return fail(TOO_MANY);
            }
            int value = tape.type == Tape.NUMBER ? tape.number : part;
            tape.step();
            if (part == '(') {
                if (!readLevel(law, 0, depth + 1)) {
                    return false;
                }
                if (tape.type != ')') {
                    return fail(UNFIT);
                }
                tape.step();
                return true;
            }
            if (part == Tape.NOT && !readPart(law, depth + 1)) {
                return false;
            }
            law.add(part == Tape.NOT ? Law.NOT : value);
            return true;
        }

        // What sort of PART the token begins, a fact being told by its code; NONE: none.
        private int partOf(Law law) {
            if (tape.type == Tape.NUMBER || tape.type == Tape.NOT || tape.type == '(') {
                return tape.type;
            }
            if (tape.type != Tape.NAME) {
                return NONE;
            }
            return tape.word == law.factName ? Law.FACT : tape.word == law.otherName ? Law.OTHER_FACT : NONE;
        }

        private static int levelOf(int type) {
            switch (type) {
                case Tape.AND: case Tape.OR: return 0;
                case '<': case '=': return LEVEL_COMPARE;
                case '+': case '-': return 2;
                case '*': return 3;
                default: return NONE;
            }
        }

        private static int actOf(int type) {
            switch (type) {
                case Tape.AND: return Law.AND;
                case Tape.OR: return Law.OR;
                case '<': return Law.LESS;
                case '=': return Law.EQUAL;
                case '+': return Law.PLUS;
                case '-': return Law.MINUS;
                default: return Law.TIMES;
            }
        }

        private boolean readTakesLine() {
            int act = tape.type;
            if (act < Tape.START || act > Tape.TAKE) {
                return fail(UNFIT);
            }
            if (script.count >= MOST_LINES) {
                return fail(TOO_MANY);
            }
            tape.step();
            index = NONE;
            number = 0;
            if (act != Tape.TAKE && !readWalkerName()) {
                return false;
            }
            if (act == Tape.START && !readNumber(0, street.cells - 1)) {
                return false;
            }
            if (act == Tape.LATE && !readNumber(0, MOST_LATE)) {
                return false;
            }
            script.add(act, index, number);
            return readToken(';');
        }
    }

    /** An E of two facts, kept so that each act stands behind what it is done to. */
    private static final class Law {
        // What is not less than 0 is a NUMBER; NONE (-1) is left out, as it means no PART at all.
        static final int FACT = -2;
        static final int OTHER_FACT = -3;
        static final int NOT = -4;
        static final int AND = -5;
        static final int OR = -6;
        static final int LESS = -7;
        static final int EQUAL = -8;
        static final int PLUS = -9;
        static final int MINUS = -10;
        static final int TIMES = -11;

        // Five levels of PARTS with four waiting values each need no more than 21.
        private static final int STACK = 32;

        final long factName;
        final long otherName;
        private final int[] code = new int[TAPE_SIGNS];
        private final int[] stack = new int[STACK];
        private int length;
        boolean told;

        Law(String fact, String other) {
            factName = Tape.asWord(fact);
            otherName = Tape.asWord(other);
        }

        void clear() {
            length = 0;
            told = false;
        }

        void add(int step) {
            if (length < code.length) {
                code[length] = step;
                length++;
            }
        }

        int valueFor(int fact, int other) {
            int top = 0;
            for (int i = 0; i < length; i++) {
                int step = code[i];
                if (step >= OTHER_FACT) {
                    if (top < STACK) {
                        stack[top] = step == FACT ? fact : step == OTHER_FACT ? other : step;
                        top++;
                    }
                } else if (step == NOT && top > 0) {
                    stack[top - 1] = stack[top - 1] == 0 ? 1 : 0;
                } else if (top > 1) {
                    top--;
                    stack[top - 1] = act(step, stack[top - 1], stack[top]);
                }
            }
            return stack[0];
        }

        private static int act(int step, int one, int other) {
            switch (step) {
                case AND: return one != 0 && other != 0 ? 1 : 0;
                case OR: return one != 0 || other != 0 ? 1 : 0;
                case LESS: return one < other ? 1 : 0;
                case EQUAL: return one == other ? 1 : 0;
                case PLUS: return one + other;
                case MINUS: return one - other;
                default: return one * other;
            }
        }
    }

    /** A WALKER as told. */
    private static final class Walker {
        static final int PRAM = 1;
        static final int DOG = 2;
        static final int STRAY = 3;

        long name;
        int kind;
        int lane;
        int from;
        int right;
        int pace;
        int lag;
        int word;
    }

    /** A STREET as told. */
    private static final class Street {
        private static final int USUAL_ROUND = 20;
        private static final int SLOWEST = 99;
        private static final int SURE = 10;

        int cells;
        int lanes;
        int frameFrom;
        int frameTo;
        int sharp;
        int round;
        boolean roundTold;
        int wordCount;
        final long[] wordNames = new long[MOST_WORDS];
        final int[] wordTenths = new int[MOST_WORDS];
        int walkerCount;
        final Walker[] walkers = new Walker[MOST_WALKERS];
        int mustCount;
        final int[] mustWalkers = new int[MOST_MUSTS];
        final int[] mustWords = new int[MOST_MUSTS];
        final int[] mustCells = new int[MOST_MUSTS];
        final Law quick = new Law("tempo", "nth");
        final Law odd = new Law("kind", "passes");

        Street() {
            for (int i = 0; i < MOST_WALKERS; i++) {
                walkers[i] = new Walker();
            }
            clear();
        }

        void clear() {
            cells = 4;
            lanes = 1;
            frameFrom = 0;
            frameTo = 3;
            sharp = 1;
            round = USUAL_ROUND;
            roundTold = false;
            wordCount = 0;
            walkerCount = 0;
            mustCount = 0;
            quick.clear();
            quick.add(Law.FACT);
            odd.clear();
            odd.add(Law.OTHER_FACT);
            odd.add(1);
            odd.add(Law.MINUS);
        }

        int findWord(long name) {
            for (int word = 0; word < wordCount; word++) {
                if (wordNames[word] == name) {
                    return word;
                }
            }
            return NONE;
        }

        int findWalker(long name) {
            for (int walker = 0; walker < walkerCount; walker++) {
                if (walkers[walker].name == name) {
                    return walker;
                }
            }
            return NONE;
        }

        boolean hasMust(int walker, int word) {
            for (int must = 0; must < mustCount; must++) {
                if (mustWalkers[must] == walker && mustWords[must] == word) {
                    return true;
                }
            }
            return false;
        }

        void addMust(int walker, int word, int cell) {
            if (mustCount < MOST_MUSTS) {
                mustWalkers[mustCount] = walker;
                mustWords[mustCount] = word;
                mustCells[mustCount] = cell;
                mustCount++;
            }
        }

        int tempoOf(int walker, int take) {
            int tempo = quick.valueFor(walkers[walker].pace, take);
            return Math.max(1, Math.min(SLOWEST, tempo));
        }

        int knownBy(int walker, int passes) {
            if (passes < 2) {
                return 0;
            }
            return Math.max(0, Math.min(SURE, odd.valueFor(walkers[walker].kind, passes)));
        }

        int cueOf(int walker) {
            Walker told = walkers[walker];
            boolean heeds = told.kind != Walker.STRAY && told.word >= 0 && told.word < wordCount;
            return heeds ? wordTenths[told.word] + told.lag : told.lag;
        }

        boolean inFrame(int cell) {
            return cell >= frameFrom && cell <= frameTo;
        }

        // Of two cells where somebody is SEEN, or NONE where he is not.
        int jumpBetween(int cell, int otherCell) {
            if (cell != NONE && otherCell != NONE) {
                return Math.abs(cell - otherCell);
            }
            return cell == otherCell ? 0 : frameTo - frameFrom + 1;
        }
    }

    /** TAKES as told, line by line. */
    private static final class Script {
        int count;
        final int[] acts = new int[MOST_LINES];
        private final int[] walkers = new int[MOST_LINES];
        private final int[] numbers = new int[MOST_LINES];

        void add(int act, int walker, int number) {
            if (count < MOST_LINES) {
                acts[count] = act;
                walkers[count] = walker;
                numbers[count] = number;
                count++;
            }
        }

        void play(int line, Hands hands) {
            int walker = walkers[line];
            if (acts[line] == Tape.TAKE) {
                hands.goOn();
            } else if (walker >= 0 && walker < MOST_WALKERS) {
                switch (acts[line]) {
                    case Tape.START: hands.starts[walker] = numbers[line]; break;
                    case Tape.TURN: hands.rights[walker] = 1 - hands.rights[walker]; break;
                    default: hands.lates[walker] = numbers[line]; break;
                }
            }
        }
    }

    /** What is changed by hand. */
    private static final class Hands {
        int take;
        final int[] starts = new int[MOST_WALKERS];
        final int[] rights = new int[MOST_WALKERS];
        final int[] lates = new int[MOST_WALKERS];

        void asTold(Street street) {
            take = 0;
            for (int walker = 0; walker < street.walkerCount; walker++) {
                starts[walker] = street.walkers[walker].from;
                rights[walker] = street.walkers[walker].right;
            }
            Arrays.fill(lates, 0);
        }

        void goOn() {
            take++;
            Arrays.fill(lates, 0);
        }

        void copyFrom(Hands hands) {
            take = hands.take;
            System.arraycopy(hands.starts, 0, starts, 0, MOST_WALKERS);
            System.arraycopy(hands.rights, 0, rights, 0, MOST_WALKERS);
            System.arraycopy(hands.lates, 0, lates, 0, MOST_WALKERS);
        }
    }

    /** What is TOLD and the SIGHTS, with the LAWS that follow from what is TOLD. */
    private static final class Papers {
        private static final int MOST_QUICKENING = 9;

        int toldCount;
        private final int[] toldTakes = new int[MOST_PAPERS];
        private final int[] toldTenths = new int[MOST_PAPERS];
        int sightCount;
        final int[] sightTenths = new int[MOST_PAPERS];
        final int[] sightCells = new int[MOST_PAPERS];
        final int[] sightRights = new int[MOST_PAPERS];
        int lawCount;
        int firstLaw;
        int lawTenth;
        boolean lawsAgree;

        boolean addTold(int take, int tenth) {
            if (toldCount >= MOST_PAPERS) {
                return false;
            }
            toldTakes[toldCount] = take;
            toldTenths[toldCount] = tenth;
            toldCount++;
            return true;
        }

        boolean addSight(int tenth, int cell, boolean right) {
            if (sightCount >= MOST_PAPERS) {
                return false;
            }
            sightTenths[sightCount] = tenth;
            sightCells[sightCount] = cell;
            sightRights[sightCount] = right ? 1 : 0;
            sightCount++;
            return true;
        }

        void copyFrom(Papers papers) {
            toldCount = papers.toldCount;
            System.arraycopy(papers.toldTakes, 0, toldTakes, 0, MOST_PAPERS);
            System.arraycopy(papers.toldTenths, 0, toldTenths, 0, MOST_PAPERS);
            sightCount = papers.sightCount;
            System.arraycopy(papers.sightTenths, 0, sightTenths, 0, MOST_PAPERS);
            System.arraycopy(papers.sightCells, 0, sightCells, 0, MOST_PAPERS);
            System.arraycopy(papers.sightRights, 0, sightRights, 0, MOST_PAPERS);
        }

        // One thing TOLD leaves a single a for each b, so that only with nothing TOLD all are tried.
        void seekLaws(int take) {
            lawCount = 0;
            lawsAgree = true;
            for (int b = 0; b <= MOST_QUICKENING; b++) {
                int least = toldCount == 0 ? 0 : toldTenths[0] + b * toldTakes[0];
                int most = toldCount == 0 ? LAST_TENTH : Math.min(least, LAST_TENTH);
                for (int a = least; a <= most; a++) {
                    if (holds(a, b)) {
                        addLaw(a, b, take);
                    }
                }
            }
        }

        private boolean holds(int a, int b) {
            for (int i = 0; i < toldCount; i++) {
                if (toldTenths[i] != a - b * toldTakes[i]) {
                    return false;
                }
            }
            return true;
        }

        private void addLaw(int a, int b, int take) {
            int tenth = a - b * take;
            if (lawCount == 0) {
                firstLaw = b * 1000 + a;
                lawTenth = tenth;
            }
            lawsAgree = lawsAgree && tenth == lawTenth;
            lawCount++;
        }
    }

    /** How all WALKERS go in one take. */
    private static final class Walks {
        private final int[] starts = new int[MOST_WALKERS];
        private final int[] rights = new int[MOST_WALKERS];
        private final int[] cues = new int[MOST_WALKERS];
        private final long[] taken = new long[MOST_LANES];
        private Street street;
        final int[] tempos = new int[MOST_WALKERS];

        Walks(Street street) {
            this.street = street;
        }

        void set(Street told, Hands hands, int take, boolean withLates) {
            street = told;
            for (int walker = 0; walker < street.walkerCount; walker++) {
                starts[walker] = hands.starts[walker];
                rights[walker] = hands.rights[walker];
                tempos[walker] = street.tempoOf(walker, take);
                cues[walker] = street.cueOf(walker) + (withLates ? hands.lates[walker] : 0);
            }
        }

        int cellOf(int walker, int tenth) {
            return cellAfter(walker, tenth - cues[walker]);
        }

        // All is reckoned as if to the right, and turned round for those who go to the left.
        int cellAfter(int walker, int tenths) {
            int last = street.cells - 1;
            boolean right = rights[walker] == 1;
            int start = right ? starts[walker] : last - starts[walker];
            int along = tenths <= 0 ? start : along(street.walkers[walker].kind, start, tenths, tempos[walker]);
            return along == NONE || right ? along : last - along;
        }

        private int along(int kind, int start, int tenths, int tempo) {
            int cells = street.cells;
            if (tempo < 1 || cells < 1) {
                return NONE;
            }
            int further = start + tenths / tempo;
            if (further < cells) {
                return further;
            }
            if (kind == Walker.PRAM) {
                return NONE;
            }
            if (kind == Walker.DOG) {
                int turned = further % (2 * cells);
                return turned < cells ? turned : 2 * cells - 1 - turned;
            }
            int gone = tenths - (cells - start) * tempo;
            int walked = gone % (street.round + cells * tempo) - street.round;
            return walked < 0 ? NONE : walked / tempo;
        }

        int seenCell(int walker, int tenth) {
            int cell = cellOf(walker, tenth);
            return street.inFrame(cell) ? cell : NONE;
        }

        int sharpness(int walker, int tenth) {
            if (!street.inFrame(cellOf(walker, tenth))) {
                return 0;
            }
            return street.walkers[walker].lane < street.sharp ? 2 : 1;
        }

        int passesOf(int walker) {
            int passes = 0;
            boolean seenBefore = false;
            for (int tenth = 0; tenth <= LAST_TENTH; tenth++) {
                boolean seen = street.inFrame(cellOf(walker, tenth));
                if (seen && !seenBefore) {
                    passes++;
                }
                seenBefore = seen;
            }
            return passes;
        }

        int knownOf(int walker) {
            return street.knownBy(walker, passesOf(walker));
        }

        int firstBump(int one, int other) {
            if (street.walkers[one].lane != street.walkers[other].lane) {
                return NONE;
            }
            for (int tenth = 0; tenth <= LAST_TENTH; tenth++) {
                int cell = cellOf(one, tenth);
                if (cell != NONE && cell == cellOf(other, tenth)) {
                    return tenth;
                }
            }
            return NONE;
        }

        boolean anyBump() {
            for (int tenth = 0; tenth <= LAST_TENTH; tenth++) {
                if (bumpsAt(tenth)) {
                    return true;
                }
            }
            return false;
        }

        private boolean bumpsAt(int tenth) {
            Arrays.fill(taken, 0);
            for (int walker = 0; walker < street.walkerCount; walker++) {
                int lane = street.walkers[walker].lane;
                int cell = cellOf(walker, tenth);
                long place = cell == NONE ? 0 : 1L << cell;
                if ((taken[lane] & place) != 0) {
                    return true;
                }
                taken[lane] |= place;
            }
            return false;
        }

        int offOf(int must) {
            int cell = cellOf(street.mustWalkers[must], street.wordTenths[street.mustWords[must]]);
            return cell == NONE ? OFF_IF_GONE : Math.abs(cell - street.mustCells[must]);
        }

        int missedMusts() {
            int missed = 0;
            for (int must = 0; must < street.mustCount; must++) {
                if (offOf(must) != 0) {
                    missed++;
                }
            }
            return missed;
        }

        boolean isGood() {
            return missedMusts() == 0 && !anyBump();
        }
    }

    /** The search for LAGS of up to four WALKERS. */
    private static final class LagSearch {
        static final int MOST = 4;
        private static final int LAGS = 24;
        private static final int BEYOND_LAGS = MOST * LAGS;

        private final int[] chosen = new int[MOST];
        private final int[][] rows = new int[MOST][LAST_TENTH + 1];
        private final int[] fitAlone = new int[MOST];
        private final int[] fitTogether = new int[MOST * MOST * LAGS];
        private final int[] tried = new int[MOST];
        private int many;
        private Street street;
        final int[] best = new int[MOST];
        int bestSum;

        LagSearch(Street street) {
            this.street = street;
        }

        boolean find(Street told, Walks walks, int walkers) {
            street = told;
            many = 0;
            for (int walker = 0; walker < street.walkerCount && many < MOST; walker++) {
                if ((walkers >> walker & 1) != 0) {
                    chosen[many] = walker;
                    fillRow(many, walks);
                    fitAlone[many] = lagsForMusts(many);
                    many++;
                }
            }
            fillTogether();
            bestSum = BEYOND_LAGS;
            search(0, 0);
            return bestSum != BEYOND_LAGS;
        }

        // A lag only shifts the way a WALKER goes, so the row without a lag is enough for all lags.
        private void fillRow(int one, Walks walks) {
            int walker = chosen[one];
            int cue = street.cueOf(walker) - street.walkers[walker].lag;
            for (int tenth = 0; tenth <= LAST_TENTH; tenth++) {
                rows[one][tenth] = walks.cellAfter(walker, tenth - cue);
            }
        }

        private int cellWith(int one, int lag, int tenth) {
            return rows[one][Math.max(0, tenth - lag)];
        }

        private int lagsForMusts(int one) {
            int fit = (1 << LAGS) - 1;
            for (int must = 0; must < street.mustCount; must++) {
                int tenth = street.wordTenths[street.mustWords[must]];
                for (int lag = 0; lag < LAGS && street.mustWalkers[must] == chosen[one]; lag++) {
                    if (cellWith(one, lag, tenth) != street.mustCells[must]) {
                        fit &= ~(1 << lag);
                    }
                }
            }
            return fit;
        }

        private void fillTogether() {
            Arrays.fill(fitTogether, (1 << LAGS) - 1);
            for (int one = 0; one < many; one++) {
                for (int other = one + 1; other < many; other++) {
                    if (street.walkers[chosen[one]].lane == street.walkers[chosen[other]].lane) {
                        forbidBumps(one, other);
                    }
                }
            }
        }

        // Two who wait longer, both by the same, bump later by just that: one look for each difference.
        private void forbidBumps(int one, int other) {
            for (int more = 0; more < LAGS; more++) {
                int oneLater = firstBump(one, more, other, 0);
                int otherLater = firstBump(one, 0, other, more);
                for (int both = 0; both + more < LAGS; both++) {
                    if (oneLater + both <= LAST_TENTH) {
                        forbid(one, both + more, other, both);
                    }
                    if (otherLater + both <= LAST_TENTH) {
                        forbid(one, both, other, both + more);
                    }
                }
            }
        }

        private void forbid(int one, int lag, int other, int otherLag) {
            fitTogether[(one * MOST + other) * LAGS + lag] &= ~(1 << otherLag);
        }

        private int firstBump(int one, int lag, int other, int otherLag) {
            for (int tenth = 0; tenth <= LAST_TENTH; tenth++) {
                int cell = cellWith(one, lag, tenth);
                if (cell != NONE && cell == cellWith(other, otherLag, tenth)) {
                    return tenth;
                }
            }
            return LAST_TENTH + 1;
        }

        // Goes through the rows from the first on, so that of equal sums the first row is kept.
        private void search(int at, int sum) {
            if (at >= many || at >= MOST) {
                bestSum = sum;
                System.arraycopy(tried, 0, best, 0, MOST);
                return;
            }
            int fit = fitAlone[at];
            for (int before = 0; before < at; before++) {
                fit &= fitTogether[(before * MOST + at) * LAGS + tried[before]];
            }
            for (int lag = 0; lag < LAGS && sum + lag < bestSum; lag++) {
                if ((fit >> lag & 1) != 0) {
                    tried[at] = lag;
                    search(at + 1, sum + lag);
                }
            }
        }
    }

    /** What is to be seen on film: shots of all WALKERS side by side, and whose the SIGHTS can be. */
    private static final class Film {
        private static final int SLOWEST_SIGHT = 9;

        private final int[][] shots = new int[BEST_TAKES][MOST_WALKERS];
        private final int[] canFollow = new int[MOST_PAPERS];
        private final int[] before = new int[MOST_PAPERS];
        private int sights;
        private int closed;
        final int[] next = new int[MOST_PAPERS];

        void shoot(int shot, Walks walks, Street street, int tenth) {
            for (int walker = 0; walker < street.walkerCount; walker++) {
                shots[shot][walker] = walks.seenCell(walker, tenth);
            }
        }

        int jumpOf(Street street, int walker, int shot, int otherShot) {
            return street.jumpBetween(shots[shot][walker], shots[otherShot][walker]);
        }

        int allJumps(Street street, int shot, int otherShot) {
            int jumps = 0;
            for (int walker = 0; walker < street.walkerCount; walker++) {
                jumps += jumpOf(street, walker, shot, otherShot);
            }
            return jumps;
        }

        // Each SIGHT that is another's next spares a man; how many do is answered.
        int findNext(Papers papers, Street street) {
            sights = papers.sightCount;
            for (int sight = 0; sight < sights; sight++) {
                canFollow[sight] = followersOf(sight, papers, street);
            }
            int free = (1 << sights) - 1;
            int most = mostPairs(0, free);
            int found = 0;
            for (int sight = 0; sight < sights; sight++) {
                next[sight] = NONE;
                for (int other = 0; other < sights && next[sight] == NONE; other++) {
                    boolean can = (canFollow[sight] & free & 1 << other) != 0;
                    if (can && found + 1 + mostPairs(sight + 1, free & ~(1 << other)) == most) {
                        next[sight] = other;
                    }
                }
                if (next[sight] != NONE) {
                    free &= ~(1 << next[sight]);
                    found++;
                }
            }
            return most;
        }

        private static int followersOf(int sight, Papers papers, Street street) {
            int bits = 0;
            for (int other = 0; other < papers.sightCount; other++) {
                int cells = papers.sightCells[other] - papers.sightCells[sight];
                int further = papers.sightRights[sight] == 1 ? cells : -cells;
                int tenths = papers.sightTenths[other] - papers.sightTenths[sight];
                boolean oneSide = papers.sightRights[other] == papers.sightRights[sight];
                boolean can = canWalk(further, tenths) || canWalk(further + street.cells, tenths - street.round);
                if (oneSide && can) {
                    bits |= 1 << other;
                }
            }
            return bits;
        }

        private static boolean canWalk(int cells, int tenths) {
            return cells >= 1 && tenths >= cells && tenths <= SLOWEST_SIGHT * cells;
        }

        // The most pairs, of the SIGHTS from one on with next ones that are free.
        private int mostPairs(int from, int free) {
            int pairs = 0;
            Arrays.fill(before, NONE);
            for (int sight = from; sight < sights; sight++) {
                closed = ~free;
                if (findPlace(sight, 0)) {
                    pairs++;
                }
            }
            return pairs;
        }

        // Each step closes one more SIGHT, so that it goes no deeper than there are SIGHTS.
        private boolean findPlace(int sight, int depth) {
            if (depth > sights) {
                return false;
            }
            for (int other = 0; other < sights; other++) {
                int bit = 1 << other;
                if ((canFollow[sight] & ~closed & bit) != 0) {
                    closed |= bit;
                    if (before[other] == NONE || findPlace(before[other], depth + 1)) {
                        before[other] = sight;
                        return true;
                    }
                }
            }
            return false;
        }
    }
}
