/** Promises 7 to 12, 35 and 36: takes by hand and told ones, what is undone, MARKS, counts. */
public final class HandsTest {
    private static final Check check = new Check("HandsTest");

    public static void main(String[] args) {
        promise7Start();
        promise8Turn();
        promise9Late();
        promise10Take();
        promise11Undo();
        promise11UndoSixteen();
        promise12Judged();
        promise35Mark();
        promise35MarkHoldsPapers();
        promise36Count();
        check.end();
    }

    private static void promise7Start() {
        SamePassers x = check.told(Check.STREET);
        check.due("start(0, 9)", x.start(0, 9), true);
        check.due("where he starts", x.where(0, 0), 9);
        check.due("gone soon", x.where(0, 5), -1);
        check.due("back", x.where(0, 11), 0);
        check.due("start(0, 0)", x.start(0, 0), true);
        check.due("start where he is", x.start(0, 0), true);
        for (int[] other : new int[][] {{-1, 0}, {4, 0}, {0, -1}, {0, 10}}) {
            check.due("start of others", x.start(other[0], other[1]), false);
        }
        check.due("what can be undone", x.count(9), 3);
        x.start(0, 3);
        x.take();
        check.due("from now on", x.where(0, 5), 4);
    }

    private static void promise8Turn() {
        SamePassers x = check.told(Check.STREET);
        check.due("turn(1)", x.turn(1), true);
        check.due("gone at the other end", x.where(1, 25), -1);
        x.take();
        check.due("from now on", x.walker(1, 3), 1);
        check.due("turn(1)", x.turn(1), true);
        check.due("turned back", x.where(1, 25), 8);
        check.due("side", x.walker(1, 3), 0);
        x.turn(0);
        check.due("side", x.walker(0, 3), 0);
        x.turn(0);
        x.undo();
        x.undo();
        check.due("turn(4)", x.turn(4), false);
        check.due("turn(-1)", x.turn(-1), false);
        check.due("what can be undone", x.count(9), 3);
    }

    private static void promise9Late() {
        SamePassers x = check.told(Check.STREET);
        check.due("late(0, 99)", x.late(0, 99), true);
        check.due("he stands", x.where(0, 103), 0);
        check.due("he goes", x.where(0, 104), 1);
        check.due("late(0, 3)", x.late(0, 3), true);
        check.due("in place of what was told", x.where(0, 8), 1);
        check.due("late(0, 0)", x.late(0, 0), true);
        check.due("not late", x.where(0, 5), 1);
        for (int[] other : new int[][] {{-1, 0}, {4, 0}, {0, -1}, {0, 100}}) {
            check.due("late of others", x.late(other[0], other[1]), false);
        }
        check.due("what can be undone", x.count(9), 3);
    }

    private static void promise10Take() {
        SamePassers x = check.told(Check.STREET);
        x.late(0, 3);
        x.start(0, 2);
        for (int i = 1; i <= 60; i++) {
            check.due("take()", x.take(), i);
            check.due("nobody is late", x.walker(0, 7), 0);
            check.due("the start stays", x.walker(0, 2), 2);
        }
        x.late(0, 3);
        check.due("take() beyond 60", x.take(), -1);
        check.due("the take stays", x.count(5), 60);
        check.due("he is late still", x.walker(0, 7), 3);
        check.due("nothing more to undo", x.undo(), true);
        check.due("late is undone", x.walker(0, 7), 0);
    }

    private static void promise11Undo() {
        SamePassers x = check.told(Check.STREET);
        check.due("undo() of nothing", x.undo(), false);
        x.late(1, 7);
        x.start(2, 1);
        x.take();
        x.turn(3);
        x.late(1, 8);
        x.late(1, 9);
        x.tell(1, 2);
        x.sight(1, 2, true);
        int[][] due = {{1, 8, 1, 1}, {1, 0, 1, 1}, {1, 0, 1, 0}, {0, 7, 1, 0}, {0, 7, 8, 0}, {0, 0, 8, 0}};
        for (int i = 0; i < due.length; i++) {
            check.due("undo()", x.undo(), true);
            check.due("the take", x.count(5), due[i][0]);
            check.due("late", x.walker(1, 7), due[i][1]);
            check.due("start", x.walker(2, 2), due[i][2]);
            check.due("side", x.walker(3, 3), due[i][3]);
            check.due("what can be undone", x.count(9), due.length - 1 - i);
        }
        check.due("undo() of nothing", x.undo(), false);
        check.due("what is TOLD stays", x.count(7), 1);
        check.due("SIGHTS stay", x.count(8), 1);
        x.start(4, 4);
        x.late(0, 100);
        check.due("what was not done", x.undo(), false);
    }

    private static void promise11UndoSixteen() {
        SamePassers x = check.told(Check.STREET);
        for (int i = 0; i < 40; i++) {
            x.start(0, i % 10);
            check.due("what can be undone", x.count(9), Math.min(16, i + 1));
        }
        for (int i = 38; i >= 23; i--) {
            check.due("undo()", x.undo(), true);
            check.due("start", x.walker(0, 2), i % 10);
        }
        check.due("undo() of the seventeenth", x.undo(), false);
        x.start(0, 1);
        check.due("undo()", x.undo(), true);
        check.due("start", x.walker(0, 2), 3);
        check.due("undo()", x.undo(), false);
    }

    private static void judged(SamePassers x, int line, int good, int take) {
        check.due("judged(0)", x.judged(0), line);
        check.due("judged(1)", x.judged(1), good);
        check.due("judged(2)", x.judged(2), take);
    }

    private static void promise12Judged() {
        SamePassers x = check.told("street 10 lanes 1 frame 0 to 9 sharp 0;say go at 20;"
            + "walker ann plain lane 0 from 0 right pace 2 lag 2;must ann go 9;");
        judged(x, -1, 0, 0);
        Check.takes(x, "late ann 50;");
        judged(x, -1, 0, 0);
        Check.takes(x, "take;late ann 1;late ann 0;take;late ann 2;take;take;start ann 1;take;");
        judged(x, 5, 3, 5);
        Check.takes(x, "turn ann;start ann 9;take;take;turn ann;start ann 0;take;");
        judged(x, 2, 1, 3);
        check.due("by hand nothing changed", x.count(5), 0);
        x.start(0, 5);
        x.turn(0);
        x.late(0, 40);
        x.take();
        judged(x, 2, 1, 3);
        check.due("by hand nothing changed", x.count(5), 1);
        check.due("by hand nothing changed", x.walker(0, 2), 5);
        check.due("judged(3)", x.judged(3), -2);
        SamePassers left = check.told("street 10 lanes 1 frame 0 to 9 sharp 0;say go at 20;"
            + "walker ann plain lane 0 from 0 left pace 2 lag 2;must ann go 9;");
        Check.takes(left, "take;turn ann;take;turn ann;take;turn ann;take;");
        judged(left, 0, 2, 4);
        check.due("judged(-1)", x.judged(-1), -2);
        SamePassers q = check.told("street 10 lanes 1 frame 0 to 9 sharp 0;say go at 20;"
            + "walker ann plain lane 0 from 0 right pace 2 lag 1;must ann go 9;quick tempo + nth;");
        Check.takes(q, "take;take;");
        judged(q, 1, 1, 2);
    }

    private static void promise35Mark() {
        SamePassers x = check.told(Check.STREET);
        for (int mark = -1; mark <= 4; mark++) {
            check.due("mark(" + mark + ", true)", x.mark(mark, true), false);
        }
        check.due("mark(-1, false)", x.mark(-1, false), false);
        check.due("mark(4, false)", x.mark(4, false), false);
        x.start(0, 1);
        x.turn(1);
        x.take();
        x.late(2, 5);
        check.due("mark(3, false)", x.mark(3, false), true);
        check.due("all can still be undone", x.count(9), 4);
        x.start(0, 2);
        x.turn(1);
        x.late(2, 6);
        x.take();
        check.due("mark(0, false)", x.mark(0, false), true);
        check.due("mark(3, true)", x.mark(3, true), true);
        check.due("start", x.walker(0, 2), 1);
        check.due("side", x.walker(1, 3), 1);
        check.due("take", x.count(5), 1);
        check.due("late", x.walker(2, 7), 5);
        check.due("where follows", x.where(2, 9), 9);
        check.due("nothing can be undone", x.undo(), false);
        check.due("mark(0, true)", x.mark(0, true), true);
        check.due("start", x.walker(0, 2), 2);
        check.due("take", x.count(5), 2);
        x.start(0, 7);
        check.due("undo()", x.undo(), true);
        check.due("a mark is not changed by what comes after", x.walker(0, 2), 2);
        x.start(0, 7);
        check.due("mark(0, true)", x.mark(0, true), true);
        check.due("start", x.walker(0, 2), 2);
        x.start(0, 8);
        check.due("laid anew", x.mark(0, false), true);
        x.start(0, 7);
        check.due("mark(0, true)", x.mark(0, true), true);
        check.due("start", x.walker(0, 2), 8);
        check.due("mark(1, true)", x.mark(1, true), false);
    }

    private static void promise35MarkHoldsPapers() {
        SamePassers x = check.told(Check.STREET);
        x.tell(3, 100);
        x.sight(10, 2, true);
        x.mark(1, false);
        x.tell(4, 95);
        x.sight(40, 8, true);
        x.mark(2, false);
        check.due("mark(1, true)", x.mark(1, true), true);
        check.due("TOLD", x.count(7), 1);
        check.due("SIGHTS", x.count(8), 1);
        check.due("laws", Check.laws(x, -1), 10);
        x.tell(0, 7);
        x.sight(0, 0, false);
        check.due("mark(2, true)", x.mark(2, true), true);
        check.due("laws", Check.laws(x, -2), 5115);
        check.due("hired", x.hired(0), 1);
        Check.takes(x, "take;");
        check.due("mark(1, true)", x.mark(1, true), true);
        check.due("TAKES are not held", x.count(6), 1);
    }

    private static void promise36Count() {
        SamePassers x = check.told(Check.STREET);
        x.take();
        x.late(0, 9);
        x.tell(1, 1);
        x.tell(1, 1);
        x.sight(1, 1, true);
        x.sight(1, 1, true);
        x.sight(1, 1, true);
        Check.takes(x, "take;take;take;take;");
        Check.feed(x, "street");
        int[] due = {10, 2, 2, 4, 2, 1, 4, 2, 3, 2, 6, 1};
        for (int what = 0; what < due.length; what++) {
            check.due("count(" + what + ")", x.count(what), due[what]);
        }
        for (int what : new int[] {-1, -2, 12, Integer.MIN_VALUE, Integer.MAX_VALUE}) {
            check.due("count(" + what + ")", x.count(what), -1);
        }
    }
}
