/** Promises 28, 29, 32 to 34: what is TOLD and its LAWS, SIGHTS and how many were hired, DAYS. */
public final class PapersTest {
    private static final Check check = new Check("PapersTest");
    private static final long NO_SUCH_ELEMENT = Check.NO_SUCH_ELEMENT;

    public static void main(String[] args) {
        promise28Tell();
        promise29Laws();
        promise29LawsAtTheEdges();
        promise32Sight();
        promise33Hired();
        promise33HiredPairs();
        promise33HiredFirstRow();
        promise34Days();
        promise34DaysOthers();
        check.end();
    }

    private static void promise28Tell() {
        SamePassers x = new SamePassers();
        for (int[] other : new int[][] {{-1, 0}, {61, 0}, {0, -1}, {0, 601}}) {
            check.due("tell of others", x.tell(other[0], other[1]), false);
        }
        for (int i = 0; i < 10; i++) {
            check.due("tell", x.tell(i % 2 == 0 ? 0 : 60, i % 2 == 0 ? 600 : 0), true);
            check.due("TOLD", x.count(7), i + 1);
        }
        check.due("tell of an eleventh", x.tell(0, 600), false);
        check.due("TOLD", x.count(7), 10);
        check.due("nothing to undo", x.undo(), false);
    }

    private static void promise29Laws() {
        SamePassers x = new SamePassers();
        check.due("laws of nothing", Check.laws(x, -1), 6010);
        check.due("the first of all", Check.laws(x, -2), 0);
        check.due("laws of a take", Check.laws(x, 0), NO_SUCH_ELEMENT);
        check.due("laws of others", Check.laws(x, -3), NO_SUCH_ELEMENT);
        check.due("laws of others", Check.laws(x, 61), NO_SUCH_ELEMENT);
        check.due("laws of others", Check.laws(x, Integer.MIN_VALUE), NO_SUCH_ELEMENT);
        x.tell(2, 46);
        check.due("one for each b", Check.laws(x, -1), 10);
        check.due("the first", Check.laws(x, -2), 46);
        check.due("the same", Check.laws(x, 2), 46);
        check.due("not the same", Check.laws(x, 3), NO_SUCH_ELEMENT);
        x.tell(0, 50);
        check.due("laws", Check.laws(x, -1), 1);
        check.due("b * 1000 + a", Check.laws(x, -2), 2050);
        check.due("its tenth", Check.laws(x, 5), 40);
        check.due("its tenth", Check.laws(x, 25), 0);
        check.due("its tenth, before the start", Check.laws(x, 60), -70);
        check.due("others", Check.laws(x, 61), NO_SUCH_ELEMENT);
        check.due("others", Check.laws(x, -3), NO_SUCH_ELEMENT);
        x.tell(1, 47);
        check.due("none", Check.laws(x, -1), 0);
        check.due("none", Check.laws(x, -2), NO_SUCH_ELEMENT);
        check.due("none", Check.laws(x, 0), NO_SUCH_ELEMENT);
        check.due("TOLD stays", x.count(7), 3);
    }

    private static void promise29LawsAtTheEdges() {
        SamePassers x = new SamePassers();
        x.tell(60, 100);
        // a = 100 + 60 b is no more than 600 up to b = 8.
        check.due("laws up to a of 600", Check.laws(x, -1), 9);
        SamePassers y = new SamePassers();
        y.tell(1, 10);
        y.tell(2, 0);
        check.due("b of 10 is none", Check.laws(y, -1), 0);
        SamePassers z = new SamePassers();
        z.tell(1, 591);
        z.tell(2, 582);
        check.due("b of 9, a of 600", Check.laws(z, -2), 9600);
        SamePassers up = new SamePassers();
        up.tell(1, 5);
        up.tell(2, 6);
        check.due("b below 0 is none", Check.laws(up, -1), 0);
        SamePassers flat = new SamePassers();
        flat.tell(7, 0);
        flat.tell(9, 0);
        check.due("b of 0", Check.laws(flat, -2), 0);
        check.due("b of 0", Check.laws(flat, 60), 0);
        SamePassers twice = new SamePassers();
        twice.tell(3, 5);
        twice.tell(3, 6);
        check.due("two tenths of one take", Check.laws(twice, -1), 0);
    }

    private static void promise32Sight() {
        SamePassers x = check.told(Check.STREET);
        for (int[] other : new int[][] {{-1, 0}, {601, 0}, {0, -1}, {0, 10}}) {
            check.due("sight of others", x.sight(other[0], other[1], true), false);
        }
        for (int i = 0; i < 10; i++) {
            check.due("sight", x.sight(i % 2 * 600, i % 2 * 9, i % 3 == 0), true);
            check.due("SIGHTS", x.count(8), i + 1);
        }
        check.due("sight of an eleventh", x.sight(0, 0, true), false);
        check.due("SIGHTS", x.count(8), 10);
        check.due("nothing to undo", x.undo(), false);
    }

    private static void promise33Hired() {
        SamePassers x = check.told(Check.STREET);
        check.due("hired of no SIGHTS", x.hired(-1), 0);
        check.due("hired(0) of no SIGHTS", x.hired(0), -2);
        x.sight(10, 2, true);
        x.sight(40, 8, true);
        x.sight(50, 8, true);
        x.sight(30, 5, false);
        int[] due = {1, -1, -1, -1};
        check.due("hired(-1)", x.hired(-1), 3);
        for (int i = 0; i < due.length; i++) {
            check.due("hired(" + i + ")", x.hired(i), due[i]);
        }
        check.due("hired(4)", x.hired(4), -2);
        check.due("hired(-2)", x.hired(-2), -2);
    }

    /** Whether of two SIGHTS, on a street of 10 with a round of 6, the second can be the next of the first. */
    private static void pair(int cell, int other, boolean right, int tenths, boolean can) {
        SamePassers x = check.told(Check.STREET);
        x.sight(0, cell, right);
        x.sight(tenths, other, right);
        String what = "from " + cell + " to " + other + " in " + tenths;
        check.due(what, x.hired(-1), can ? 1 : 2);
        check.due(what, x.hired(0), can ? 1 : -1);
        SamePassers told = check.told(Check.STREET);
        told.sight(tenths, other, right);
        told.sight(0, cell, right);
        check.due(what + ", the later one told first", told.hired(1), can ? 0 : -1);
        SamePassers sides = check.told(Check.STREET);
        sides.sight(0, cell, right);
        sides.sight(tenths, other, !right);
        check.due(what + " to the other side", sides.hired(-1), 2);
    }

    private static void promise33HiredPairs() {
        pair(3, 5, true, 1, false);
        pair(3, 5, true, 2, true);
        pair(3, 5, true, 18, true);
        // Round by 12 cells: from 18 to 114.
        pair(3, 5, true, 19, true);
        pair(3, 5, true, 114, true);
        pair(3, 5, true, 115, false);
        // Round by 8 cells: from 14 to 78.
        pair(5, 3, true, 13, false);
        pair(5, 3, true, 14, true);
        pair(5, 3, true, 78, true);
        pair(5, 3, true, 79, false);
        pair(5, 3, false, 2, true);
        pair(5, 3, false, 1, false);
        pair(3, 5, false, 13, false);
        pair(3, 5, false, 14, true);
        // Round by 10 cells: from 16 to 96.
        pair(4, 4, true, 0, false);
        pair(4, 4, true, 15, false);
        pair(4, 4, true, 16, true);
        pair(4, 4, false, 96, true);
        pair(4, 4, false, 97, false);
        // Round by 1 cell: 7 to 15.
        pair(9, 0, true, 6, false);
        pair(9, 0, true, 7, true);
        pair(9, 0, true, 15, true);
        pair(9, 0, true, 16, false);
        pair(8, 9, true, 10, false);
    }

    private static void promise33HiredFirstRow() {
        SamePassers x = check.told("street 40 lanes 1 frame 0 to 39 sharp 1;round 99;");
        // 0 can be followed by 2 and 3, 1 by 2 alone: the fewest men need 0 to leave 2 to 1.
        x.sight(0, 0, true);
        x.sight(0, 5, true);
        x.sight(20, 10, true);
        x.sight(30, 4, true);
        check.due("hired(-1)", x.hired(-1), 2);
        int[] due = {3, 2, -1, -1};
        for (int i = 0; i < due.length; i++) {
            check.due("hired(" + i + ")", x.hired(i), due[i]);
        }
        SamePassers y = check.told("street 40 lanes 1 frame 0 to 39 sharp 1;round 99;");
        // Each of the first two can be followed by each of the last two; none stands behind all.
        y.sight(0, 0, true);
        y.sight(0, 1, true);
        y.sight(30, 20, true);
        y.sight(31, 20, true);
        check.due("hired(0)", y.hired(0), 2);
        check.due("hired(1)", y.hired(1), 3);
        SamePassers z = check.told("street 40 lanes 1 frame 0 to 39 sharp 1;round 99;");
        // Three for one next: the first has it.
        z.sight(30, 20, true);
        z.sight(0, 0, true);
        z.sight(0, 1, true);
        z.sight(0, 2, true);
        check.due("hired(-1)", z.hired(-1), 3);
        check.due("hired(1)", z.hired(1), 0);
        check.due("hired(2)", z.hired(2), -1);
        SamePassers chain = check.told("street 40 lanes 1 frame 0 to 39 sharp 1;round 99;");
        for (int i = 9; i >= 0; i--) {
            chain.sight(5 * i, i, true);
        }
        check.due("one man for ten", chain.hired(-1), 1);
        // The last ones come first: each has the one just told before him as next, but the first rows decide.
        int[] next = new int[10];
        int seen = 0;
        for (int i = 0; i < 10; i++) {
            next[i] = chain.hired(i);
            seen += next[i] == -1 ? 1 : 0;
        }
        check.due("one has no next", seen, 1);
        check.due("the latest has no next", next[0], -1);
        check.due("the next to it", next[1], 0);
    }

    /** What the days come to if they are reckoned take by take by hand. */
    private static void days(String text, int ahead, int seed, int takes) {
        SamePassers x = check.told(text);
        SamePassers hand = check.told(text);
        for (int i = 0; i < ahead; i++) {
            x.take();
            hand.take();
        }
        x.late(0, 50);
        long g = seed;
        int good = 0;
        int missed = 0;
        int best = 0;
        int fewest = 100;
        for (int k = 0; k < takes; k++) {
            for (int w = 0; w < hand.count(3); w++) {
                g = (g * 1103515245L + 12345L) % 2147483648L;
                int late = 0;
                if (g / 65536 % 10 < 2) {
                    g = (g * 1103515245L + 12345L) % 2147483648L;
                    late = (int) (g / 65536 % 9) + 1;
                }
                hand.late(w, late);
            }
            good += hand.good() ? 1 : 0;
            int now = hand.count(11);
            missed += now;
            if (now < fewest) {
                fewest = now;
                best = k;
            }
            hand.take();
        }
        check.due("days good", x.days(seed, takes, 0), good);
        check.due("days missed", x.days(seed, takes, 1), missed);
        check.due("days best", x.days(seed, takes, 2), best);
        check.due("all is as ahead", x.walker(0, 7), 50);
        check.due("all is as ahead", x.count(5), ahead);
        check.due("all is as ahead", x.count(9), Math.min(16, ahead + 1));
    }

    private static void promise34Days() {
        String lone = "street 30 lanes 2 frame 0 to 9 sharp 0;say go at 20;say end at 40;"
            + "walker ann plain lane 0 from 0 right pace 2 lag 1;walker bob pram lane 0 from 9 right pace 2 lag 0;"
            + "walker cat dog lane 1 from 9 left pace 3 lag 0;must ann go 9;must bob go 19;must cat end 4;must ann end 19;";
        for (int seed : new int[] {0, 1, 77, 5000, 9999}) {
            days(lone, 0, seed, 20);
            days(lone, 3, seed, 7);
            days(lone + "quick tempo + (2 < nth);", 0, seed, 12);
            days(Check.STREET, 0, seed, 1);
        }
        SamePassers late = check.told(lone);
        for (int i = 0; i < 60; i++) {
            late.take();
        }
        check.due("days beyond take 60", late.days(3, 20, 1) >= 0, true);
        // Seed 1: 16838, 5758, 10113, 17515, 31051 .. as of old: 8, 8, 3, 5, 1 and then the next below 9 and 1.
        SamePassers five = check.told("street 30 lanes 1 frame 0 to 9 sharp 0;say go at 20;"
            + "walker ann pram lane 0 from 0 right pace 1 lag 0;must ann go 20;");
        check.due("four takes without anybody late", five.days(1, 4, 1), 0);
        check.due("late in the fifth", five.days(1, 5, 1), 1);
        check.due("good", five.days(1, 5, 0), 4);
        check.due("best", five.days(1, 5, 2), 0);
    }

    private static void promise34DaysOthers() {
        SamePassers x = check.told(Check.STREET);
        for (int[] other : new int[][] {{-1, 1, 0}, {10000, 1, 0}, {0, 0, 0}, {0, 21, 0}, {0, 1, -1}, {0, 1, 3}, {0, Integer.MIN_VALUE, 0}}) {
            check.due("days of others", x.days(other[0], other[1], other[2]), -1);
        }
        SamePassers none = new SamePassers();
        check.due("days of nobody", none.days(5, 20, 0), 20);
        check.due("days of nobody", none.days(5, 20, 1), 0);
        check.due("days of nobody", none.days(5, 20, 2), 0);
    }
}
