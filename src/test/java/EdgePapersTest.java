/** Edges of promises 28, 29, 32, 33 and 34: what is TOLD, LAWS, SIGHTS, how many were HIRED, DAYS. */
public final class EdgePapersTest {
    private static final long NO_SUCH_ELEMENT = Check.NO_SUCH_ELEMENT;

    public static void main(String[] args) {
        Edges.run(EdgePapersTest.class);
    }

    // Promise 28: "TOLD: true; false: others, 10 are TOLD"; "in a take (0 to 60) at a tenth (0 to 600); 10 at most"

    /** An object to which these were told: take, tenth, take, tenth .. */
    private static SamePassers told(int... pairs) {
        SamePassers x = new SamePassers();
        for (int i = 0; i + 1 < pairs.length; i += 2) {
            Edges.due("tell(" + pairs[i] + ", " + pairs[i + 1] + ")", x.tell(pairs[i], pairs[i + 1]), true);
        }
        return x;
    }

    static void p28_tell_takes0And60() {
        Edges.due("TOLD", told(0, 5, 60, 5).count(7), 2);
    }

    static void p28_tell_takesMinus1And61AreRefusedAndLeaveAll() {
        Edges.leavesAll("tell(-1, 5)", x -> Edges.asLong(x.tell(-1, 5)), 0);
        Edges.leavesAll("tell(61, 5)", x -> Edges.asLong(x.tell(61, 5)), 0);
        for (int far : new int[] {Integer.MIN_VALUE, Integer.MAX_VALUE}) {
            Edges.leavesAll("tell(" + far + ", 5)", x -> Edges.asLong(x.tell(far, 5)), 0);
        }
    }

    static void p28_tell_tenths0And600() {
        Edges.due("TOLD", told(5, 0, 5, 600).count(7), 2);
    }

    static void p28_tell_tenthsMinus1And601AreRefusedAndLeaveAll() {
        Edges.leavesAll("tell(5, -1)", x -> Edges.asLong(x.tell(5, -1)), 0);
        Edges.leavesAll("tell(5, 601)", x -> Edges.asLong(x.tell(5, 601)), 0);
        for (int far : new int[] {Integer.MIN_VALUE, Integer.MAX_VALUE}) {
            Edges.leavesAll("tell(5, " + far + ")", x -> Edges.asLong(x.tell(5, far)), 0);
        }
    }

    static void p28_tell_10AreTheMost() {
        SamePassers x = new SamePassers();
        for (int i = 1; i <= 10; i++) {
            Edges.due("tell", x.tell(i, 100 - i), true);
            Edges.due("TOLD", x.count(7), i);
        }
        Edges.due("laws of all ten", Check.laws(x, -2), 1100);
    }

    static void p28_tell_anEleventhIsRefusedAndLeavesAll() {
        Edges.leavesAll("tell", x -> {
            for (int i = 3; i < 10; i++) {
                x.tell(i, 50 - 2 * i);
            }
        }, x -> Edges.asLong(x.tell(5, 7)), 0);
        SamePassers full = told(0, 90, 1, 89, 2, 88, 3, 87, 4, 86, 5, 85, 6, 84, 7, 83, 8, 82, 9, 81);
        Edges.due("an eleventh that would not fit", full.tell(0, 0), false);
        Edges.due("laws", Check.laws(full, -1), 1);
        Edges.due("others", full.tell(-1, 0), false);
    }

    static void p28_tell_theSameTwiceIsTwo() {
        SamePassers x = told(3, 3, 3, 3);
        Edges.due("TOLD", x.count(7), 2);
        Edges.due("laws", Check.laws(x, -1), 10);
    }

    static void p28_tell_canNotBeUndone() {
        Edges.due("undo", told(0, 5).undo(), false);
    }

    static void p28_tell_changesNothingElse() {
        SamePassers x = Edges.rich();
        x.tell(4, 42);
        Edges.rowDue("count", x::count, 10, 2, 2, 3, 2, 1, 4, 4, 3, 6, 19, 2);
    }

    // "LAWS: tenth = a - b * take (a 0 to 600, b 0 to 9) by which all TOLD is so: how many; the first (b the lesser, then a); the tenth of a take by all"
    // Promise 29: "what NONE: how many; -2: b * 1000 + a of the first; take (0 to 60): its tenth. NoSuchElementException: others, none (but NONE), not the same"

    private static void lawsDue(SamePassers x, int what, long want) {
        Edges.due("laws(" + what + ")", Check.laws(x, what), want);
    }

    static void p29_laws_ofNothingToldAreAll6010() {
        SamePassers x = new SamePassers();
        lawsDue(x, -1, 6010);
        lawsDue(x, -2, 0);
        lawsDue(x, 0, NO_SUCH_ELEMENT);
        lawsDue(x, 60, NO_SUCH_ELEMENT);
    }

    static void p29_laws_minus3And61AreOthers() {
        SamePassers[] all = {new SamePassers(), told(0, 50, 2, 46), told(0, 50, 1, 60)};
        for (SamePassers x : all) {
            lawsDue(x, -3, NO_SUCH_ELEMENT);
            lawsDue(x, 61, NO_SUCH_ELEMENT);
            for (int far : Edges.FAR) {
                lawsDue(x, far, NO_SUCH_ELEMENT);
            }
        }
    }

    static void p29_laws_ofTakes0And60() {
        SamePassers x = told(0, 600, 1, 591);
        lawsDue(x, 0, 600);
        lawsDue(x, 60, 60);
    }

    static void p29_laws_theTenthMayBeBelow0() {
        SamePassers x = told(0, 50, 2, 46);
        lawsDue(x, 25, 0);
        lawsDue(x, 26, -2);
        lawsDue(x, 60, -70);
    }

    static void p29_laws_noneButTheirNumberIs0() {
        SamePassers x = told(0, 50, 1, 51);
        lawsDue(x, -1, 0);
        lawsDue(x, -2, NO_SUCH_ELEMENT);
        lawsDue(x, 0, NO_SUCH_ELEMENT);
        lawsDue(x, 60, NO_SUCH_ELEMENT);
    }

    static void p29_laws_notTheSameForATakeIsNone() {
        SamePassers x = told(2, 46);
        lawsDue(x, -1, 10);
        lawsDue(x, 1, NO_SUCH_ELEMENT);
        lawsDue(x, 2, 46);
        lawsDue(x, 3, NO_SUCH_ELEMENT);
    }

    static void p29_laws_bOf0IsTheLeast() {
        SamePassers x = told(0, 5, 60, 5);
        lawsDue(x, -1, 1);
        lawsDue(x, -2, 5);
        lawsDue(told(1, 5, 2, 6), -1, 0);
    }

    static void p29_laws_bOf9IsTheGreatest_10IsNone() {
        SamePassers x = told(1, 20, 2, 11);
        lawsDue(x, -1, 1);
        lawsDue(x, -2, 9029);
        lawsDue(told(1, 20, 2, 10), -1, 0);
    }

    static void p29_laws_aOf0IsTheLeast() {
        SamePassers x = told(0, 0);
        lawsDue(x, -1, 10);
        lawsDue(x, -2, 0);
        lawsDue(x, 0, 0);
        lawsDue(told(0, 0, 5, 0), -1, 1);
    }

    static void p29_laws_aOf600IsTheGreatest_601IsNone() {
        // a is 60 + 60 * b, or 61 + 60 * b.
        lawsDue(told(60, 60), -1, 10);
        lawsDue(told(60, 61), -1, 9);
        lawsDue(told(60, 600), -1, 1);
        lawsDue(told(60, 600), -2, 600);
        lawsDue(told(60, 600), 0, 600);
        lawsDue(told(1, 591, 2, 582), -2, 9600);
        lawsDue(told(1, 592, 2, 583), -1, 0);
    }

    static void p29_laws_theFirstHasTheLesserBThenA() {
        lawsDue(new SamePassers(), -2, 0);
        lawsDue(told(10, 100), -2, 100);
        lawsDue(told(60, 0), -2, 0);
        lawsDue(told(0, 600), -2, 600);
    }

    static void p29_laws_allToldMustBeSoTheLastToo() {
        int[] ten = {0, 90, 1, 89, 2, 88, 3, 87, 4, 86, 5, 85, 6, 84, 7, 83, 8, 82, 9, 81};
        lawsDue(told(ten), -2, 1090);
        ten[19] = 82;
        lawsDue(told(ten), -1, 0);
        ten[19] = 81;
        ten[1] = 91;
        lawsDue(told(ten), -1, 0);
    }

    static void p29_laws_twoTenthsOfOneTakeAreByNone() {
        lawsDue(told(3, 5, 3, 6), -1, 0);
    }

    static void p29_laws_throwNoSuchElementAndLeaveAll() {
        Edges.leavesAll("laws(61)", x -> Check.laws(x, 61), NO_SUCH_ELEMENT);
        Edges.leavesAll("laws(-3)", x -> Check.laws(x, -3), NO_SUCH_ELEMENT);
        Edges.leavesAll("laws(0), none", x -> x.tell(0, 0), x -> Check.laws(x, 0), NO_SUCH_ELEMENT);
        Edges.leavesAll("laws(-2), none", x -> x.tell(0, 0), x -> Check.laws(x, -2), NO_SUCH_ELEMENT);
        Edges.leavesAll("laws(5)", x -> Check.laws(x, 5), 40);
    }

    // Promise 32: "A SIGHT: true; false: others, 10 there are"; "at a tenth (0 to 600) at a cell going to a side; 10 at most"

    static void p32_sight_tenths0And600() {
        SamePassers x = new SamePassers();
        Edges.due("sight(0, 0, true)", x.sight(0, 0, true), true);
        Edges.due("sight(600, 0, false)", x.sight(600, 0, false), true);
        Edges.due("SIGHTS", x.count(8), 2);
    }

    static void p32_sight_tenthsMinus1And601AreRefusedAndLeaveAll() {
        for (int other : new int[] {-1, 601, Integer.MIN_VALUE, Integer.MAX_VALUE}) {
            Edges.leavesAll("sight(" + other + ", 0, true)", x -> Edges.asLong(x.sight(other, 0, true)), 0);
        }
    }

    static void p32_sight_cell0AndTheLastCell() {
        SamePassers x = Edges.rich();
        Edges.due("sight(5, 0, true)", x.sight(5, 0, true), true);
        Edges.due("sight(5, 9, true)", x.sight(5, 9, true), true);
        SamePassers small = new SamePassers();
        Edges.due("sight(5, 3, true)", small.sight(5, 3, true), true);
        Edges.due("sight(5, 4, true)", small.sight(5, 4, true), false);
    }

    static void p32_sight_besideTheStreetIsRefusedAndLeavesAll() {
        for (int other : new int[] {-1, 10, Integer.MIN_VALUE, Integer.MAX_VALUE}) {
            Edges.leavesAll("sight(5, " + other + ", true)", x -> Edges.asLong(x.sight(5, other, true)), 0);
        }
    }

    static void p32_sight_10AreTheMost() {
        SamePassers x = new SamePassers();
        for (int i = 1; i <= 10; i++) {
            Edges.due("sight", x.sight(0, 0, true), true);
            Edges.due("SIGHTS", x.count(8), i);
        }
    }

    static void p32_sight_anEleventhIsRefusedAndLeavesAll() {
        Edges.leavesAll("sight", x -> {
            for (int i = 3; i < 10; i++) {
                x.sight(60 + 5 * i, i, true);
            }
        }, x -> Edges.asLong(x.sight(200, 1, true)), 0);
    }

    static void p32_sight_canNotBeUndone() {
        SamePassers x = new SamePassers();
        x.sight(0, 0, true);
        Edges.due("undo", x.undo(), false);
        Edges.due("SIGHTS", x.count(8), 1);
    }

    static void p32_sight_changesNothingElse() {
        SamePassers x = Edges.rich();
        x.sight(4, 2, true);
        Edges.rowDue("count", x::count, 10, 2, 2, 3, 2, 1, 4, 3, 4, 6, 19, 2);
    }

    // "Two can be one man's if both go to one side and the later one is further by so many cells (1 or more) in no less tenths than these
    // and no more than 9 times these; or behind the camera: further round by the street's cells in no less than these and round,
    // no more than 9 times these and round"

    /** Whether on a street of 40 the second SIGHT, so many tenths later, can be the next one of the first. */
    private static void nextDue(int round, int cell, int other, int tenths, boolean want) {
        for (boolean right : new boolean[] {true, false}) {
            SamePassers x = Edges.told("street 40 lanes 1 frame 0 to 39 sharp 1;round " + round + ";");
            x.sight(100, right ? cell : 39 - cell, right);
            x.sight(100 + tenths, right ? other : 39 - other, right);
            String what = "from " + cell + " to " + other + " in " + tenths + (right ? "" : ", to the left");
            Edges.due(what, x.hired(-1), want ? 1 : 2);
            Edges.due(what, x.hired(0), want ? 1 : -1);
            Edges.due(what, x.hired(1), -1);
        }
    }

    static void p33_hired_1CellIn1To9Tenths() {
        nextDue(99, 4, 5, 0, false);
        nextDue(99, 4, 5, 1, true);
        nextDue(99, 4, 5, 9, true);
        nextDue(99, 4, 5, 10, false);
    }

    static void p33_hired_39CellsIn39TenthsOrMore() {
        nextDue(99, 0, 39, 38, false);
        nextDue(99, 0, 39, 39, true);
        nextDue(99, 0, 39, 351, true);
    }

    static void p33_hired_aMiddleWayAtBothItsEnds() {
        nextDue(99, 3, 8, 4, false);
        nextDue(99, 3, 8, 5, true);
        nextDue(99, 3, 8, 45, true);
        nextDue(99, 3, 8, 46, false);
    }

    static void p33_hired_atTheSameCellOnlyRound() {
        nextDue(99, 7, 7, 0, false);
        nextDue(99, 7, 7, 1, false);
        nextDue(99, 7, 7, 138, false);
        nextDue(99, 7, 7, 139, true);
        nextDue(99, 7, 7, 459, true);
        nextDue(99, 7, 7, 460, false);
    }

    static void p33_hired_aCellFurtherAndRound() {
        nextDue(99, 4, 5, 139, false);
        nextDue(99, 4, 5, 140, true);
        nextDue(99, 4, 5, 468, true);
        nextDue(99, 4, 5, 469, false);
    }

    static void p33_hired_aCellBackOnlyRound() {
        nextDue(99, 5, 4, 1, false);
        nextDue(99, 5, 4, 137, false);
        nextDue(99, 5, 4, 138, true);
        nextDue(99, 5, 4, 450, true);
        nextDue(99, 5, 4, 451, false);
    }

    static void p33_hired_fromTheLastCellToTheFirst() {
        nextDue(99, 39, 0, 99, false);
        nextDue(99, 39, 0, 100, true);
        nextDue(99, 39, 0, 108, true);
        nextDue(99, 39, 0, 109, false);
    }

    static void p33_hired_withoutTimeRound() {
        nextDue(0, 39, 0, 0, false);
        nextDue(0, 39, 0, 1, true);
        nextDue(0, 39, 0, 9, true);
        nextDue(0, 39, 0, 10, false);
        nextDue(0, 7, 7, 39, false);
        nextDue(0, 7, 7, 40, true);
        nextDue(0, 7, 7, 360, true);
        nextDue(0, 7, 7, 361, false);
    }

    static void p33_hired_theEarlierOneIsNeverTheNext() {
        SamePassers x = new SamePassers();
        x.sight(9, 2, true);
        x.sight(8, 1, true);
        Edges.rowDue("hired", x::hired, -1, 0, -2);
        Edges.due("hired(-1)", x.hired(-1), 1);
    }

    static void p33_hired_ofTwoSidesNever() {
        SamePassers x = new SamePassers();
        x.sight(0, 0, true);
        x.sight(5, 1, false);
        x.sight(5, 0, false);
        x.sight(0, 1, true);
        Edges.due("hired(-1)", x.hired(-1), 4);
    }

    // "HIRED: the fewest men of whom all SIGHTS can be, each SIGHT the next one of one other at most; the next one of each by that"
    // Promise 33: "what NONE: how many; i: the SIGHT behind the i-th (NONE: none); -2: others"

    private static SamePassers road() {
        return Edges.told("street 40 lanes 1 frame 0 to 39 sharp 1;round 99;");
    }

    static void p33_hired_ofNoSights() {
        SamePassers x = new SamePassers();
        Edges.due("hired(-1)", x.hired(-1), 0);
        Edges.due("hired(0)", x.hired(0), -2);
        Edges.due("hired(-2)", x.hired(-2), -2);
    }

    static void p33_hired_ofOneSight() {
        SamePassers x = new SamePassers();
        x.sight(0, 0, true);
        Edges.due("hired(-1)", x.hired(-1), 1);
        Edges.rowDue("hired", x::hired, -1, -2);
    }

    static void p33_hired_minus2AndOneBeyondTheSightsAreOthers() {
        SamePassers x = Edges.rich();
        Edges.due("hired(2)", x.hired(2), -1);
        Edges.due("hired(3)", x.hired(3), -2);
        Edges.due("hired(-2)", x.hired(-2), -2);
        for (int far : Edges.FAR) {
            Edges.due("hired(" + far + ")", x.hired(far), -2);
        }
    }

    static void p33_hired_of10SightsOfOneMan() {
        SamePassers x = road();
        for (int i = 0; i < 10; i++) {
            x.sight(50 * i, 4 * i, true);
        }
        // Four cells take 36 at most: none is the next of another but round.
        Edges.due("too slow", x.hired(-1) > 1, true);
        SamePassers y = road();
        for (int i = 0; i < 10; i++) {
            y.sight(36 * i, 4 * i, true);
        }
        Edges.due("hired(-1)", y.hired(-1), 1);
        Edges.rowDue("hired", y::hired, 1, 2, 3, 4, 5, 6, 7, 8, 9, -1, -2);
    }

    static void p33_hired_of10SightsOf10Men() {
        SamePassers x = road();
        for (int i = 0; i < 10; i++) {
            x.sight(300, 4 * i, true);
        }
        Edges.due("hired(-1)", x.hired(-1), 10);
        Edges.rowDue("hired", x::hired, -1, -1, -1, -1, -1, -1, -1, -1, -1, -1, -2);
    }

    static void p33_hired_eachIsTheNextOfOneOtherAtMost() {
        SamePassers x = road();
        x.sight(0, 0, true);
        x.sight(0, 1, true);
        x.sight(20, 10, true);
        Edges.due("hired(-1)", x.hired(-1), 2);
        Edges.rowDue("hired", x::hired, 2, -1, -1);
    }

    static void p33_hired_theFewestMenComeBeforeTheFirstRow() {
        SamePassers x = road();
        // 0 can have 2 or 3 behind it, 1 has 2 alone.
        x.sight(0, 0, true);
        x.sight(0, 5, true);
        x.sight(20, 10, true);
        x.sight(30, 4, true);
        Edges.due("hired(-1)", x.hired(-1), 2);
        Edges.rowDue("hired", x::hired, 3, 2, -1, -1);
    }

    static void p33_hired_ofEqualWaysTheFirstRowByNumbers() {
        SamePassers x = road();
        // Each of 2 and 3 can have 0 or 1 behind it.
        x.sight(31, 20, true);
        x.sight(30, 20, true);
        x.sight(0, 5, true);
        x.sight(0, 6, true);
        Edges.due("hired(-1)", x.hired(-1), 2);
        Edges.rowDue("hired", x::hired, -1, -1, 0, 1);
    }

    /** Who is whose next one where a choice must be taken back through several others. */
    private static void chainDue(int men, int[] pairs, long... next) {
        SamePassers x = Edges.told("street 40 lanes 1 frame 0 to 39 sharp 1;round 20;");
        for (int i = 0; i + 1 < pairs.length; i += 2) {
            x.sight(pairs[i], pairs[i + 1], true);
        }
        Edges.due("hired(-1)", x.hired(-1), men);
        Edges.rowDue("hired", x::hired, next);
    }

    static void p33_hired_aChoiceIsTakenBackThroughSeveralOthers() {
        chainDue(3, new int[] {184, 33, 118, 23, 42, 11, 144, 26, 51, 17, 121, 31, 57, 21, 103, 25, 58, 29}, -1, 0, 4, -1, 6, -1, 3, 5, 1);
        chainDue(3, new int[] {171, 11, 79, 27, 19, 3, 86, 37, 43, 23, 36, 27, 67, 18}, -1, 0, 4, -1, 1, 3, -1);
        chainDue(3, new int[] {61, 19, 154, 14, 144, 30, 177, 29, 85, 39, 119, 26, 71, 18, 98, 25}, 4, 3, -1, -1, 1, 2, 5, -1);
        chainDue(3, new int[] {12, 2, 53, 2, 68, 16, 124, 35, 33, 7, 20, 30, 32, 18, 70, 25}, 4, 2, 3, -1, 7, 1, -1, -1);
    }

    static void p33_hired_noneStandsBehindAllNumbers() {
        SamePassers x = road();
        // One of the first two has no next one: the first has one.
        x.sight(0, 5, true);
        x.sight(0, 6, true);
        x.sight(30, 20, true);
        Edges.rowDue("hired", x::hired, 2, -1, -1);
    }

    static void p33_hired_leavesAllAsItWas() {
        for (int what = -2; what <= 3; what++) {
            int asked = what;
            Edges.leavesAll("hired(" + what + ")", x -> x.hired(asked), Edges.rich().hired(what));
        }
    }

    // "A DRAW below m: g becomes (g * 1103515245 + 12345) modulo 2147483648 ..; it is g / 65536, cut, modulo m. DAYS by a SEED of so many takes"

    /** One alone who is there on his word only if he is late by so much. */
    private static SamePassers thereIfLate(int late) {
        return Edges.told("street 40 lanes 2 frame 0 to 39 sharp 1;say ww at 20;walker aa pram lane 0 from 0 right pace 1 lag 0;must aa ww "
            + (20 - late) + ";");
    }

    private static void daysDue(SamePassers x, int seed, int takes, int good, int missed, int best) {
        Edges.rowDue("days by " + seed + " of " + takes + ",", what -> x.days(seed, takes, what), good, missed, best);
    }

    // By SEED 0 he is late by 4 0 0 0 0 0 9 4 0 0 0 0 0 0 0 0 4 8 3 8, by 9999 by 9 0 0 5 0 .., by 1 by 0 0 0 0 3 4 0 ..

    static void p34_days_seeds0And9999() {
        daysDue(thereIfLate(4), 0, 1, 1, 0, 0);
        daysDue(thereIfLate(4), 0, 20, 3, 17, 0);
        daysDue(thereIfLate(9), 9999, 1, 1, 0, 0);
        daysDue(thereIfLate(5), 9999, 4, 1, 3, 3);
    }

    static void p34_days_seedsMinus1And10000AreNone() {
        for (int what = 0; what <= 2; what++) {
            for (int other : new int[] {-1, 10000, Integer.MIN_VALUE, Integer.MAX_VALUE}) {
                Edges.due("days(" + other + ", 1, " + what + ")", thereIfLate(0).days(other, 1, what), -1);
            }
        }
    }

    static void p34_days_takes1And20() {
        daysDue(thereIfLate(0), 0, 1, 0, 1, 0);
        daysDue(thereIfLate(0), 0, 20, 13, 7, 1);
        daysDue(thereIfLate(3), 0, 18, 0, 18, 0);
        daysDue(thereIfLate(3), 0, 19, 1, 18, 18);
        daysDue(thereIfLate(8), 0, 20, 2, 18, 17);
    }

    static void p34_days_takes0And21AreNone() {
        for (int what = 0; what <= 2; what++) {
            for (int other : new int[] {0, 21, -1, Integer.MIN_VALUE, Integer.MAX_VALUE}) {
                Edges.due("days(0, " + other + ", " + what + ")", thereIfLate(0).days(0, other, what), -1);
            }
        }
    }

    static void p34_days_whatMinus1And3AreNone() {
        Edges.due("days(0, 1, -1)", thereIfLate(0).days(0, 1, -1), -1);
        Edges.due("days(0, 1, 3)", thereIfLate(0).days(0, 1, 3), -1);
        for (int far : Edges.FAR) {
            Edges.due("days(0, 1, " + far + ")", thereIfLate(0).days(0, 1, far), -1);
        }
    }

    static void p34_days_aDrawOf0Or1IsLate_2IsNot() {
        // By 150 the first DRAW is 0, by 102 it is 1, by 9 it is 2.
        daysDue(thereIfLate(0), 150, 1, 0, 1, 0);
        daysDue(thereIfLate(0), 102, 1, 0, 1, 0);
        daysDue(thereIfLate(0), 9, 1, 1, 0, 0);
        daysDue(thereIfLate(0), 16, 1, 1, 0, 0);
    }

    static void p34_days_lateBy1AtLeast_9AtMost() {
        // By 150 and 102 the second DRAW is 0, by 104 and 56 it is 8.
        daysDue(thereIfLate(1), 150, 1, 1, 0, 0);
        daysDue(thereIfLate(1), 102, 1, 1, 0, 0);
        daysDue(thereIfLate(9), 104, 1, 1, 0, 0);
        daysDue(thereIfLate(9), 56, 1, 1, 0, 0);
    }

    static void p34_days_drawsGoOnFromTakeToTake() {
        daysDue(thereIfLate(3), 1, 5, 1, 4, 4);
        daysDue(thereIfLate(4), 1, 6, 1, 5, 5);
        daysDue(thereIfLate(0), 1, 7, 5, 2, 0);
    }

    static void p34_days_drawsAreForEachWalkerInTurn() {
        // By 1 the third take begins with the DRAWS that make the first one late by 3 and the second by 4.
        SamePassers x = Edges.told("street 40 lanes 2 frame 0 to 39 sharp 1;say ww at 20;walker aa pram lane 0 from 0 right pace 1 lag 0;"
            + "walker bb pram lane 1 from 0 right pace 1 lag 0;must aa ww 17;must bb ww 16;");
        daysDue(x, 1, 2, 0, 4, 0);
        daysDue(x, 1, 3, 1, 4, 2);
    }

    static void p34_days_theBestIsTheFirstOfEqualOnes() {
        daysDue(thereIfLate(8), 0, 20, 2, 18, 17);
        daysDue(thereIfLate(7), 0, 20, 0, 20, 0);
    }

    static void p34_days_theBestMissesSevenOfEightMusts() {
        // By 1 aa is late by 3 in the third take, and there on one word then; all else is missed in all takes.
        StringBuilder text = new StringBuilder("street 40 lanes 2 frame 0 to 39 sharp 1;say ww at 20;say wb at 1;say wc at 2;say wd at 3;say we at 4;say wf at 5;"
            + "walker aa pram lane 0 from 0 right pace 1 lag 0;walker bb pram lane 1 from 0 right pace 9 lag 99;must aa ww 17;must aa wb 39;must bb ww 39;");
        for (char word = 'b'; word <= 'f'; word++) {
            text.append("must bb w").append(word).append(" 39;");
        }
        SamePassers x = Edges.told(text.toString());
        daysDue(x, 1, 2, 0, 16, 0);
        daysDue(x, 1, 3, 0, 23, 2);
    }

    static void p34_days_withNobodyAllAreGood() {
        daysDue(new SamePassers(), 0, 1, 1, 0, 0);
        daysDue(new SamePassers(), 9999, 20, 20, 0, 0);
    }

    static void p34_days_aBumpIsNotGoodButMissesNoMust() {
        SamePassers x = Edges.told("street 40 lanes 2 frame 0 to 39 sharp 1;say ww at 0;walker aa pram lane 0 from 0 right pace 1 lag 0;"
            + "walker bb pram lane 0 from 0 right pace 1 lag 0;must aa ww 0;");
        daysDue(x, 0, 20, 0, 0, 0);
    }

    static void p34_days_whoIsLateByHandIsNotThen() {
        SamePassers x = thereIfLate(4);
        x.late(0, 50);
        daysDue(x, 0, 20, 3, 17, 0);
        Edges.due("late", x.walker(0, 7), 50);
    }

    static void p34_days_areFromThisTakeOnAsAllStartAndGoNow() {
        SamePassers x = Edges.told("street 40 lanes 2 frame 0 to 39 sharp 1;say ww at 20;walker aa pram lane 0 from 0 right pace 1 lag 0;"
            + "must aa ww 20;quick 1 + (3 < nth);");
        // By 6 nobody is late in 20 takes: he is there in takes 0 to 3.
        daysDue(x, 6, 20, 4, 16, 0);
        x.take();
        x.take();
        daysDue(x, 6, 20, 2, 18, 0);
        x.start(0, 10);
        daysDue(x, 6, 20, 18, 2, 2);
    }

    static void p34_days_goOnBeyondTake60() {
        SamePassers x = Edges.told("street 40 lanes 2 frame 0 to 39 sharp 1;say ww at 20;walker aa pram lane 0 from 0 right pace 1 lag 0;"
            + "must aa ww 10;quick 1 + (60 < nth);");
        for (int i = 0; i < 60; i++) {
            x.take();
        }
        daysDue(x, 6, 20, 19, 1, 1);
    }

    static void p34_days_leaveAllAsItWas() {
        for (int what = -1; what <= 3; what++) {
            int asked = what;
            Edges.leavesAll("days(5, 20, " + what + ")", x -> x.days(5, 20, asked), Edges.rich().days(5, 20, what));
        }
    }
}
