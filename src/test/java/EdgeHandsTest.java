/** Edges of promises 1, 7 to 11, 35 and 36: a new object, what is done by hand and undone, MARKS, counts. */
public final class EdgeHandsTest {
    public static void main(String[] args) {
        Edges.run(EdgeHandsTest.class);
    }

    private static SamePassers atTake(SamePassers x, int take) {
        for (int i = x.count(5); i < take; i++) {
            x.take();
        }
        return x;
    }

    // "A street of 4 cells, one lane, all in the frame, sharp"; "At first: .. nothing else"

    static void p01_new_isAStreetOf4CellsAndOneLane() {
        SamePassers x = new SamePassers();
        Edges.due("cells", x.count(0), 4);
        Edges.due("lanes", x.count(1), 1);
        Edges.rowDue("whose", cell -> x.whose(cell, 0, 0), 0, 0, 0, 0, -1);
        Edges.rowDue("row", lane -> x.row(lane, 0), 0, -1);
    }

    static void p01_new_hasNothingElse() {
        Edges.rowDue("count", new SamePassers()::count, 4, 1, 0, 0, 0, 0, 0, 0, 0, 0, 0, 0);
    }

    static void p01_new_isAsTheStreetOfTheTermsToldByHand() {
        Edges.sameDue("street 4 lanes 1 frame 0 to 3 sharp 1", new SamePassers(), Edges.told("street 4 lanes 1 frame 0 to 3 sharp 1;"));
    }

    static void p01_new_objectsDoNotShareAnything() {
        SamePassers x = new SamePassers();
        SamePassers other = Edges.rich();
        Edges.due("take of the other", other.count(5), 1);
        Edges.sameDue("another was told much", x, new SamePassers());
    }

    static void p01_new_isAnsweredUpToItsCall512() {
        SamePassers x = new SamePassers();
        for (int i = 0; i < 255; i++) {
            Edges.due("take", x.take(), 1);
            Edges.due("undo", x.undo(), true);
        }
        Edges.due("call 511", x.take(), 1);
        Edges.due("call 512", x.count(5), 1);
    }

    // "START: true; false: others"

    static void p07_start_atCell0AndTheLastCell() {
        SamePassers x = Edges.rich();
        Edges.due("start(0, 0)", x.start(0, 0), true);
        Edges.due("where", x.where(0, 0), 0);
        Edges.due("start(0, 9)", x.start(0, 9), true);
        Edges.due("where", x.where(0, 0), 9);
    }

    static void p07_start_ofTheFirstAndTheLastWalker() {
        SamePassers x = Edges.rich();
        Edges.due("start(0, 6)", x.start(0, 6), true);
        Edges.due("start(2, 6)", x.start(2, 6), true);
        Edges.rowDue("start", walker -> x.walker(walker, 2), 6, 8, 6);
    }

    static void p07_start_besideTheStreetIsRefusedAndLeavesAll() {
        Edges.leavesAll("start(0, -1)", x -> Edges.asLong(x.start(0, -1)), 0);
        Edges.leavesAll("start(0, 10)", x -> Edges.asLong(x.start(0, 10)), 0);
        for (int far : Edges.FAR) {
            Edges.leavesAll("start(0, " + far + ")", x -> Edges.asLong(x.start(0, far)), 0);
        }
    }

    static void p07_start_ofNobodyIsRefusedAndLeavesAll() {
        Edges.leavesAll("start(-1, 0)", x -> Edges.asLong(x.start(-1, 0)), 0);
        Edges.leavesAll("start(3, 0)", x -> Edges.asLong(x.start(3, 0)), 0);
        for (int far : Edges.FAR) {
            Edges.leavesAll("start(" + far + ", 0)", x -> Edges.asLong(x.start(far, 0)), 0);
        }
        Edges.due("start of a new object", new SamePassers().start(0, 0), false);
    }

    static void p07_start_whereHeIsAlreadyIsDoneAndCanBeUndone() {
        SamePassers x = Edges.rich();
        Edges.due("what can be undone", x.count(9), 6);
        Edges.due("start(0, 1)", x.start(0, 1), true);
        Edges.due("what can be undone", x.count(9), 7);
    }

    static void p07_start_isForAllTakesFromNowOn() {
        SamePassers x = Edges.rich();
        x.start(0, 7);
        Edges.due("start in take 60", atTake(x, 60).walker(0, 2), 7);
    }

    // "TURN: true; false: others"

    static void p08_turn_ofTheFirstAndTheLastWalker() {
        SamePassers x = Edges.rich();
        Edges.rowDue("side", walker -> x.walker(walker, 3), 1, 0, 0);
        Edges.due("turn(0)", x.turn(0), true);
        Edges.due("turn(2)", x.turn(2), true);
        Edges.rowDue("side", walker -> x.walker(walker, 3), 0, 0, 1);
    }

    static void p08_turn_twiceIsAsBeforeButCanBeUndoneTwice() {
        SamePassers x = Edges.rich();
        x.turn(0);
        x.turn(0);
        Edges.due("side", x.walker(0, 3), 1);
        Edges.due("what can be undone", x.count(9), 8);
        x.undo();
        Edges.due("side", x.walker(0, 3), 0);
    }

    static void p08_turn_ofNobodyIsRefusedAndLeavesAll() {
        Edges.leavesAll("turn(-1)", x -> Edges.asLong(x.turn(-1)), 0);
        Edges.leavesAll("turn(3)", x -> Edges.asLong(x.turn(3)), 0);
        for (int far : Edges.FAR) {
            Edges.leavesAll("turn(" + far + ")", x -> Edges.asLong(x.turn(far)), 0);
        }
        Edges.due("turn of a new object", new SamePassers().turn(0), false);
    }

    static void p08_turn_isForAllTakesFromNowOn() {
        SamePassers x = Edges.rich();
        x.turn(0);
        Edges.due("side in take 60", atTake(x, 60).walker(0, 3), 0);
    }

    // "LATE (0 to 99): true; false: others"

    static void p09_late_0IsTheLeast() {
        SamePassers x = Edges.rich();
        Edges.due("late(0, 0)", x.late(0, 0), true);
        Edges.due("late", x.walker(0, 7), 0);
        Edges.due("what can be undone", x.count(9), 7);
    }

    static void p09_late_99IsTheGreatest() {
        SamePassers x = Edges.rich();
        Edges.due("late(0, 99)", x.late(0, 99), true);
        Edges.due("late", x.walker(0, 7), 99);
        // From cell 1 with a TEMPO of 6.
        Edges.timesDue("where", tenth -> x.where(0, tenth), 104, 1, 105, 2);
    }

    static void p09_late_minus1And100AreRefusedAndLeaveAll() {
        Edges.leavesAll("late(0, -1)", x -> Edges.asLong(x.late(0, -1)), 0);
        Edges.leavesAll("late(0, 100)", x -> Edges.asLong(x.late(0, 100)), 0);
        for (int far : new int[] {Integer.MIN_VALUE, Integer.MAX_VALUE, 1000}) {
            Edges.leavesAll("late(0, " + far + ")", x -> Edges.asLong(x.late(0, far)), 0);
        }
    }

    static void p09_late_ofNobodyIsRefusedAndLeavesAll() {
        Edges.leavesAll("late(-1, 5)", x -> Edges.asLong(x.late(-1, 5)), 0);
        Edges.leavesAll("late(3, 5)", x -> Edges.asLong(x.late(3, 5)), 0);
        for (int far : Edges.FAR) {
            Edges.leavesAll("late(" + far + ", 5)", x -> Edges.asLong(x.late(far, 5)), 0);
        }
        Edges.due("late of a new object", new SamePassers().late(0, 0), false);
    }

    static void p09_late_isInPlaceOfWhatWasTold() {
        SamePassers x = Edges.rich();
        x.late(0, 9);
        x.late(0, 4);
        Edges.due("late", x.walker(0, 7), 4);
    }

    static void p09_late_isForThisTakeAlone() {
        SamePassers x = Edges.rich();
        Edges.rowDue("late", walker -> x.walker(walker, 7), 7, 0, 5);
        x.take();
        Edges.rowDue("late in the next take", walker -> x.walker(walker, 7), 0, 0, 0);
    }

    // "TAKE: which it is; NONE: it would be beyond 60"

    static void p10_take_theFirstIs1() {
        Edges.due("take", new SamePassers().take(), 1);
    }

    static void p10_take_60IsTheLast() {
        SamePassers x = atTake(Edges.rich(), 59);
        Edges.due("take", x.take(), 60);
        Edges.due("count(5)", x.count(5), 60);
        Edges.due("tempo by take 60", x.walker(0, 4), 65);
    }

    static void p10_take_beyond60IsRefusedAndLeavesAll() {
        Edges.leavesAll("take", x -> atTake(x, 60).late(0, 9), SamePassers::take, -1);
        Edges.leavesAll("take twice", x -> atTake(x, 60).late(0, 9), x -> x.take() + x.take(), -2);
    }

    static void p10_take_isPossibleAgainOnceTheLastIsUndone() {
        SamePassers x = atTake(new SamePassers(), 60);
        x.undo();
        Edges.due("take", x.take(), 60);
        Edges.due("take", x.take(), -1);
    }

    // "UNDO: these, the last 16, one by one"; "UNDO: true; false: nothing can be"

    static void p11_undo_ofNothingIsRefusedAndLeavesAll() {
        Edges.due("undo of a new object", new SamePassers().undo(), false);
        Edges.leavesAll("undo", x -> {
            for (int i = 0; i < 6; i++) {
                x.undo();
            }
        }, x -> Edges.asLong(x.undo()), 0);
    }

    static void p11_undo_ofAStart() {
        SamePassers x = Edges.rich();
        x.start(1, 2);
        Edges.due("undo", x.undo(), true);
        Edges.sameDue("a start undone", x, Edges.rich());
    }

    static void p11_undo_ofATurn() {
        SamePassers x = Edges.rich();
        x.turn(1);
        Edges.due("undo", x.undo(), true);
        Edges.sameDue("a turn undone", x, Edges.rich());
    }

    static void p11_undo_ofALate() {
        SamePassers x = Edges.rich();
        x.late(0, 50);
        Edges.due("undo", x.undo(), true);
        Edges.sameDue("a late undone: as late as before", x, Edges.rich());
    }

    static void p11_undo_ofATakeAllAreLateAgain() {
        SamePassers x = Edges.rich();
        x.take();
        Edges.due("undo", x.undo(), true);
        Edges.rowDue("late", walker -> x.walker(walker, 7), 7, 0, 5);
        Edges.sameDue("a take undone", x, Edges.rich());
    }

    static void p11_undo_16AreTheMost() {
        SamePassers x = new SamePassers();
        for (int done = 1; done <= 20; done++) {
            x.take();
            Edges.due("what can be undone", x.count(9), Math.min(done, 16));
        }
        for (int left = 15; left >= 0; left--) {
            Edges.due("undo", x.undo(), true);
            Edges.due("what can be undone", x.count(9), left);
            Edges.due("take", x.count(5), 4 + left);
        }
        Edges.due("undo of a seventeenth", x.undo(), false);
        Edges.due("take", x.count(5), 4);
    }

    static void p11_undo_exactly16() {
        SamePassers x = atTake(new SamePassers(), 16);
        for (int i = 0; i < 16; i++) {
            Edges.due("undo", x.undo(), true);
        }
        Edges.due("take", x.count(5), 0);
        Edges.due("undo", x.undo(), false);
    }

    static void p11_undo_theOldestIsWrittenOverByThe17th() {
        SamePassers x = Edges.told(Portrait.STREET);
        x.start(0, 5);
        for (int i = 0; i < 16; i++) {
            x.turn(1);
        }
        for (int i = 0; i < 16; i++) {
            x.undo();
        }
        Edges.due("undo of the first", x.undo(), false);
        Edges.due("start", x.walker(0, 2), 5);
    }

    static void p11_undo_andDoneAnewGoesOnFromThere() {
        SamePassers x = atTake(new SamePassers(), 20);
        for (int i = 0; i < 10; i++) {
            x.undo();
        }
        atTake(x, 30);
        Edges.due("what can be undone", x.count(9), 16);
        for (int take = 29; take >= 14; take--) {
            Edges.due("undo", x.undo(), true);
            Edges.due("take", x.count(5), take);
        }
        Edges.due("undo", x.undo(), false);
    }

    static void p11_undo_whatWasRefusedIsNotUndone() {
        SamePassers x = Edges.told(Portrait.STREET);
        x.start(0, 5);
        x.start(0, 10);
        x.turn(3);
        x.late(0, 100);
        Edges.due("undo", x.undo(), true);
        Edges.due("start", x.walker(0, 2), 0);
        Edges.due("undo", x.undo(), false);
    }

    static void p11_undo_leavesTakesToldSightsMarksAndTheTape() {
        SamePassers x = Edges.rich();
        x.start(0, 3);
        x.tell(5, 40);
        x.sight(60, 4, true);
        x.mark(1, false);
        Check.feed(x, "take;");
        x.undo();
        Edges.rowDue("count", what -> x.count(what + 6), 4, 4, 4, 6, 24);
        // The MARK was laid before the start was undone.
        x.mark(1, true);
        Edges.due("start by the MARK", x.walker(0, 2), 3);
    }

    // "MARKS 0 to 3 hold the take, starts, sides, who is late, what is TOLD, SIGHTS"

    static void p35_mark_0IsTheFirst_3TheLast() {
        SamePassers x = Edges.rich();
        for (int mark = 0; mark < 4; mark++) {
            Edges.due("mark(" + mark + ", false)", x.mark(mark, false), true);
            Edges.due("mark(" + mark + ", true)", x.mark(mark, true), true);
        }
    }

    static void p35_mark_minus1And4AreRefusedAndLeaveAll() {
        for (boolean back : new boolean[] {false, true}) {
            Edges.leavesAll("mark(-1, " + back + ")", x -> Edges.asLong(x.mark(-1, back)), 0);
            Edges.leavesAll("mark(4, " + back + ")", x -> Edges.asLong(x.mark(4, back)), 0);
            for (int far : Edges.FAR) {
                Edges.leavesAll("mark(" + far + ", " + back + ")", x -> Edges.asLong(x.mark(far, back)), 0);
            }
        }
    }

    static void p35_mark_withNothingOnItIsRefusedAndLeavesAll() {
        Edges.leavesAll("mark(1, true)", x -> Edges.asLong(x.mark(1, true)), 0);
        Edges.leavesAll("mark(3, true)", x -> Edges.asLong(x.mark(3, true)), 0);
        for (int mark = 0; mark < 4; mark++) {
            Edges.due("mark(" + mark + ", true) of a new object", new SamePassers().mark(mark, true), false);
        }
    }

    static void p35_mark_layingOneChangesNothingElse() {
        SamePassers x = Edges.rich();
        Edges.due("mark(3, false)", x.mark(3, false), true);
        Edges.rowDue("count", x::count, 10, 2, 2, 3, 2, 1, 4, 3, 3, 6, 19);
        Edges.due("undo", x.undo(), true);
        Edges.due("start", x.walker(2, 2), 3);
    }

    static void p35_mark_holdsTheTakeStartsSidesAndWhoIsLate() {
        SamePassers x = Edges.rich();
        x.mark(1, false);
        atTake(x, 60);
        for (int walker = 0; walker < 3; walker++) {
            x.start(walker, 9);
            x.turn(walker);
            x.late(walker, 99);
        }
        Edges.due("mark(1, true)", x.mark(1, true), true);
        Edges.due("take", x.count(5), 1);
        Edges.rowDue("start", walker -> x.walker(walker, 2), 1, 8, 4);
        Edges.rowDue("side", walker -> x.walker(walker, 3), 1, 0, 0);
        Edges.rowDue("late", walker -> x.walker(walker, 7), 7, 0, 5);
        Edges.due("tempo", x.walker(0, 4), 6);
    }

    static void p35_mark_holdsWhatIsToldAndTheSights() {
        SamePassers x = Edges.rich();
        x.mark(1, false);
        while (x.tell(60, 600)) {
            x.sight(0, 0, false);
        }
        Edges.due("mark(1, true)", x.mark(1, true), true);
        Edges.due("TOLD", x.count(7), 3);
        Edges.due("SIGHTS", x.count(8), 3);
        Edges.due("laws", Check.laws(x, -2), 2050);
        Edges.rowDue("hired", x::hired, 1, -1, -1, -2);
    }

    static void p35_mark_ofFullPapersIsFullAgain() {
        SamePassers x = Edges.told(Portrait.STREET);
        x.mark(0, false);
        for (int i = 0; i < 10; i++) {
            x.tell(i, 600 - 9 * i);
            x.sight(5 * i, i, true);
        }
        x.mark(1, false);
        x.mark(0, true);
        Edges.due("TOLD", x.count(7), 0);
        Edges.due("SIGHTS", x.count(8), 0);
        Edges.due("laws", Check.laws(x, -1), 6010);
        x.tell(7, 1);
        x.sight(77, 3, false);
        x.mark(1, true);
        Edges.due("TOLD", x.count(7), 10);
        Edges.due("an eleventh", x.tell(0, 600), false);
        Edges.due("SIGHTS", x.count(8), 10);
        Edges.due("an eleventh", x.sight(0, 0, true), false);
        Edges.due("laws", Check.laws(x, -2), 9600);
        Edges.due("hired", x.hired(-1), 1);
        Edges.rowDue("hired", x::hired, 1, 2, 3, 4, 5, 6, 7, 8, 9, -1);
    }

    static void p35_mark_eachThingOnItIsItsOwn() {
        // Of two SIGHTS and two things TOLD one number alone is another one each time.
        int[][] others = {{8, 50, 0, 2}, {0, 51, 0, 2}, {0, 50, 30, 2}, {0, 50, 0, 6}};
        for (int[] other : others) {
            SamePassers x = Edges.told(Portrait.STREET);
            SamePassers y = Edges.told(Portrait.STREET);
            for (SamePassers each : new SamePassers[] {x, y}) {
                each.mark(0, false);
                each.tell(0, 50);
                each.sight(0, 2, true);
                each.mark(1, false);
            }
            x.mark(0, true);
            x.tell(other[0], other[1]);
            x.sight(other[2], other[3], true);
            for (SamePassers each : new SamePassers[] {x, y}) {
                Edges.due("mark(1, true)", each.mark(1, true), true);
                each.tell(2, 46);
                each.sight(20, 5, true);
            }
            Edges.due("laws", Check.laws(x, -2), 2050);
            Edges.due("hired", x.hired(0), 1);
            Edges.sameDue("gone back to", x, y);
        }
    }

    static void p35_mark_laidAnewIsWrittenOver() {
        SamePassers x = Edges.rich();
        x.take();
        x.mark(0, false);
        x.take();
        x.mark(0, true);
        Edges.due("take", x.count(5), 2);
    }

    static void p35_mark_goneBackToStaysLaid() {
        SamePassers x = Edges.rich();
        for (int i = 0; i < 3; i++) {
            x.take();
            x.start(0, 9);
            x.tell(0, 0);
            x.sight(0, 0, true);
            Edges.due("mark(0, true)", x.mark(0, true), true);
            Edges.rowDue("count", what -> x.count(what + 5), 1, 4, 2, 2, 0);
            Edges.due("start", x.walker(0, 2), 1);
        }
    }

    static void p35_mark_eachHoldsItsOwn() {
        SamePassers x = Edges.told(Portrait.STREET);
        for (int mark = 0; mark < 4; mark++) {
            x.start(0, mark + 3);
            x.mark(mark, false);
        }
        for (int mark = 3; mark >= 0; mark--) {
            x.mark(mark, true);
            Edges.due("start", x.walker(0, 2), mark + 3);
        }
    }

    // "(nothing can be undone when one is gone back to)"

    static void p35_mark_nothingCanBeUndoneWhenGoneBackTo() {
        SamePassers x = Edges.rich();
        x.mark(2, true);
        Edges.due("count(9)", x.count(9), 0);
        Edges.due("undo", x.undo(), false);
        x.take();
        Edges.due("count(9)", x.count(9), 1);
        Edges.due("undo", x.undo(), true);
        Edges.due("undo", x.undo(), false);
        Edges.due("take", x.count(5), 1);
    }

    static void p35_mark_holdsNeitherTakesNorTheTape() {
        SamePassers x = Edges.rich();
        x.mark(1, false);
        x.takes();
        Edges.due("lines", x.count(6), 3);
        x.mark(1, true);
        Edges.due("lines", x.count(6), 3);
        Edges.due("signs", x.count(10), 0);
    }

    static void p35_mark_ofANewObjectCanBeLaid() {
        SamePassers x = new SamePassers();
        Edges.due("mark(3, false)", x.mark(3, false), true);
        x.take();
        x.tell(0, 0);
        Edges.due("mark(3, true)", x.mark(3, true), true);
        Edges.due("take", x.count(5), 0);
        Edges.due("TOLD", x.count(7), 0);
    }

    // "What 0: cells .. 11: musts missed in this take. NONE for another what"

    static void p36_count_minus1And12AreNone() {
        SamePassers x = Edges.rich();
        Edges.due("count(-1)", x.count(-1), -1);
        Edges.due("count(12)", x.count(12), -1);
        Edges.due("count(-2)", x.count(-2), -1);
        for (int far : Edges.FAR) {
            Edges.due("count(" + far + ")", x.count(far), -1);
        }
    }

    static void p36_count_eachWhatHasItsOwn() {
        Edges.rowDue("count", Edges.rich()::count, 10, 2, 2, 3, 2, 1, 4, 3, 3, 6, 19, 2, -1);
    }

    static void p36_count_theMostOfAll() {
        StringBuilder text = new StringBuilder("street 40 lanes 4 frame 0 to 39 sharp 4;");
        for (char c = 'a'; c <= 'f'; c++) {
            text.append("say w").append(c).append(" at 0;");
        }
        for (char c = 'a'; c <= 'h'; c++) {
            text.append("walker p").append(c).append(" pram lane 0 from 0 left pace 1 lag 0;");
        }
        for (char c = 'a'; c <= 'h'; c++) {
            text.append("must p").append(c).append(" wa 1;");
        }
        SamePassers x = Edges.told(text.toString());
        Edges.due("takes", Check.takes(x, "take;".repeat(30)), 0);
        atTake(x, 60);
        for (int i = 0; i < 11; i++) {
            x.tell(0, 0);
            x.sight(0, 0, true);
        }
        Check.feed(x, " ".repeat(1001));
        Edges.rowDue("count", x::count, 40, 4, 6, 8, 8, 60, 30, 10, 10, 16, 1000, 8);
    }

    static void p36_count_missedAreThoseOfThisTake() {
        SamePassers x = Edges.told(Portrait.STREET);
        // On end nun is at 8 with a TEMPO of 5; on go rex is at 9 with one of 4.
        Edges.due("none missed", x.count(11), 0);
        x.late(0, 1);
        Edges.due("one missed", x.count(11), 1);
        x.start(1, 0);
        Edges.due("two missed", x.count(11), 2);
        x.undo();
        x.undo();
        Edges.due("none missed", x.count(11), 0);
        x.take();
        Edges.due("missed in take 1", x.count(11), 1);
    }

    static void p36_count_leavesAllAsItWas() {
        Edges.leavesAll("count(11)", x -> x.count(11), 2);
    }
}
