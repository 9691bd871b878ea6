/** Promises 5, 13 to 19, 24, 25, 31: where all are, who is seen, who bumps, who must be where. */
public final class WalkTest {
    private static final Check check = new Check("WalkTest");

    public static void main(String[] args) {
        promise5Walker();
        promise5PassesAndKnown();
        promise13Where();
        promise13RoundAndTurned();
        promise14Seen();
        promise15First();
        promise16Good();
        promise17Off();
        promise18Until();
        promise19Unknown();
        promise24Row();
        promise25Wrong();
        promise31Whose();
        check.end();
    }

    private static void where(SamePassers x, int walker, int[] tenths, int[] cells) {
        for (int i = 0; i < tenths.length; i++) {
            check.due("where(" + walker + ", " + tenths[i] + ")", x.where(walker, tenths[i]), cells[i]);
        }
    }

    private static void promise5Walker() {
        SamePassers x = check.told(Check.STREET);
        int[][] due = {{0, 0, 0, 1, 5, 0, -1, 0}, {1, 0, 9, 0, 5, 10, 0, 0}, {2, 1, 8, 1, 4, 0, -1, 0}, {3, 1, 3, 0, 2, 20, 1, 0}};
        for (int walker = 0; walker < due.length; walker++) {
            for (int what = 0; what < due[walker].length; what++) {
                check.due("walker(" + walker + ", " + what + ")", x.walker(walker, what), due[walker][what]);
            }
        }
        x.start(1, 4);
        x.turn(1);
        x.late(1, 99);
        check.due("starts by hand", x.walker(1, 2), 4);
        check.due("side by hand", x.walker(1, 3), 1);
        check.due("late", x.walker(1, 7), 99);
        check.due("lag as told", x.walker(1, 5), 10);
        for (int[] other : new int[][] {{-1, 0}, {4, 0}, {0, -1}, {0, 10}, {Integer.MIN_VALUE, 3}, {1, Integer.MAX_VALUE}}) {
            check.due("walker of others", x.walker(other[0], other[1]), -1);
        }
    }

    private static void promise5PassesAndKnown() {
        SamePassers x = check.told(Check.STREET);
        // Out of the frame at both ends of the street; once each 56 tenths, from 10 on.
        check.due("passes of the plain one", x.walker(0, 8), 11);
        check.due("known: 11 - 1", x.walker(0, 9), 10);
        check.due("passes of the pram", x.walker(1, 8), 1);
        check.due("known of one pass", x.walker(1, 9), 0);
        SamePassers y = check.told("street 5 lanes 1 frame 0 to 4 sharp 1;walker aa plain lane 0 from 0 right pace 9 lag 0;round 0;");
        check.due("passes without ever leaving", y.walker(0, 8), 1);
        SamePassers z = check.told("street 5 lanes 1 frame 0 to 4 sharp 1;walker aa plain lane 0 from 0 right pace 9 lag 0;round 1;odd 7;");
        check.due("passes with one tenth behind the camera", z.walker(0, 8), 14);
        check.due("known by odd", z.walker(0, 9), 7);
        SamePassers never = check.told("street 5 lanes 1 frame 4 to 4 sharp 1;walker aa pram lane 0 from 0 left pace 9 lag 0;odd 7;");
        check.due("passes of one never seen", never.walker(0, 8), 0);
        check.due("known of one never seen", never.walker(0, 9), 0);
        SamePassers twice = check.told("street 5 lanes 1 frame 2 to 2 sharp 1;say ww at 600;"
            + "walker aa dog lane 0 from 2 right pace 9 lag 99 on ww;walker bb plain lane 0 from 2 right pace 9 lag 0;round 99;");
        check.due("passes of one who stands in the frame", twice.walker(0, 8), 1);
        // Away at 9, gone at 27, back at 126, in the frame at 144; each further one 144 later.
        check.due("passes", twice.walker(1, 8), 5);
        check.due("known", twice.walker(1, 9), 4);
        SamePassers once = check.told("street 4 lanes 1 frame 1 to 1 sharp 1;say ww at 599;say vv at 590;"
            + "walker aa pram lane 0 from 1 right pace 1 lag 0;walker bb pram lane 0 from 0 right pace 1 lag 0 on ww;"
            + "walker cc dog lane 0 from 1 left pace 1 lag 7 on vv;odd 7;");
        check.due("passes at tenth 0 alone", once.walker(0, 8), 1);
        check.due("passes at tenth 600 alone", once.walker(1, 8), 1);
        // Away at 598, back at 600.
        check.due("passes twice", once.walker(2, 8), 2);
        check.due("known who passes twice", once.walker(2, 9), 7);
        check.due("unknown who passes once", once.walker(1, 9), 0);
    }

    private static void promise13Where() {
        SamePassers x = check.told(Check.STREET);
        where(x, 0, new int[] {0, 4, 5, 49, 50, 55, 56, 60, 61, 105, 106, 600}, new int[] {0, 0, 1, 9, -1, -1, 0, 0, 1, 9, -1, 8});
        where(x, 1, new int[] {0, 20, 24, 25, 69, 70, 76, 600}, new int[] {9, 9, 9, 8, 0, -1, -1, -1});
        where(x, 2, new int[] {3, 4, 7, 8, 11, 12, 44, 47, 48, 51, 52}, new int[] {8, 9, 9, 9, 9, 8, 0, 0, 0, 0, 1});
        // The stray one does not heed the word at 40: he goes from 20 on.
        where(x, 3, new int[] {0, 21, 22, 27, 28, 33, 34, 36}, new int[] {3, 3, 2, 0, -1, -1, 9, 8});
        for (int[] other : new int[][] {{-1, 0}, {4, 0}, {0, -1}, {0, 601}, {Integer.MAX_VALUE, Integer.MIN_VALUE}}) {
            check.due("where of others", x.where(other[0], other[1]), -1);
        }
    }

    private static void promise13RoundAndTurned() {
        SamePassers x = check.told("street 4 lanes 1 frame 0 to 3 sharp 1;say ww at 7;"
            + "walker aa plain lane 0 from 2 left pace 3 lag 2 on ww;walker bb dog lane 0 from 1 left pace 2 lag 0;round 0;");
        // His cue is 7 + 2; gone at 9 + 3 * 3 = 18 for no tenths at all.
        where(x, 0, new int[] {0, 11, 12, 17, 18, 20, 21, 29, 30}, new int[] {2, 2, 1, 0, 3, 3, 2, 0, 3});
        where(x, 1, new int[] {1, 2, 3, 4, 5, 6, 8, 10, 12, 14, 18, 20, 22}, new int[] {1, 0, 0, 0, 0, 1, 2, 3, 3, 2, 0, 0, 1});
        x.late(0, 5);
        where(x, 0, new int[] {16, 17, 22, 23}, new int[] {2, 1, 0, 3});
        x.turn(0);
        where(x, 0, new int[] {16, 17, 19, 20, 22, 23}, new int[] {2, 3, 3, 0, 0, 1});
        SamePassers usual = check.told("street 4 lanes 1 frame 0 to 3 sharp 1;walker aa plain lane 0 from 3 right pace 1 lag 0;");
        where(usual, 0, new int[] {0, 1, 20, 21, 22, 25, 44, 45}, new int[] {3, -1, -1, 0, 1, -1, -1, 0});
        SamePassers quick = check.told("street 4 lanes 1 frame 0 to 3 sharp 1;walker aa pram lane 0 from 0 right pace 1 lag 0;quick tempo + 2 * nth;");
        where(quick, 0, new int[] {2, 3, 4}, new int[] {2, 3, -1});
        quick.take();
        where(quick, 0, new int[] {2, 3, 4, 9, 12}, new int[] {0, 1, 1, 3, -1});
    }

    private static void promise14Seen() {
        SamePassers x = check.told(Check.STREET);
        int[][] due = {{0, 9, 0}, {0, 10, 2}, {0, 39, 2}, {0, 40, 0}, {0, 52, 0}, {2, 15, 0}, {2, 16, 1}, {2, 39, 1}, {2, 40, 0},
            {3, 0, 1}, {0, 601, -1}, {0, -1, -1}, {4, 0, -1}, {-1, 0, -1}};
        for (int[] d : due) {
            check.due("seen(" + d[0] + ", " + d[1] + ")", x.seen(d[0], d[1]), d[2]);
        }
        SamePassers blurred = check.told("street 4 lanes 1 frame 0 to 3 sharp 0;walker aa dog lane 0 from 0 right pace 1 lag 0;");
        check.due("seen where nothing is sharp", blurred.seen(0, 0), 1);
    }

    private static void promise15First() {
        SamePassers x = check.told(Check.STREET);
        int[][] due = {{0, 1, 61}, {1, 0, 61}, {2, 3, 68}, {0, 2, -1}, {1, 1, -1}, {0, 4, -1}, {-1, 0, -1}, {0, Integer.MAX_VALUE, -1}};
        for (int[] d : due) {
            check.due("first(" + d[0] + ", " + d[1] + ")", x.first(d[0], d[1]), d[2]);
        }
        SamePassers y = check.told("street 9 lanes 1 frame 0 to 8 sharp 1;say ww at 600;"
            + "walker aa pram lane 0 from 0 right pace 1 lag 0;walker bb pram lane 0 from 8 right pace 1 lag 0;"
            + "walker cc pram lane 0 from 0 left pace 1 lag 0;walker dd pram lane 0 from 7 left pace 2 lag 0 on ww;"
            + "walker ee pram lane 0 from 6 left pace 1 lag 99 on ww;");
        check.due("they bump at once", y.first(0, 2), 0);
        check.due("two that are gone do not bump", y.first(1, 2), -1);
        check.due("he walks into one who stands", y.first(0, 3), 7);
        check.due("both stand all along", y.first(3, 4), -1);
        y.start(4, 7);
        check.due("both stand at one cell", y.first(3, 4), 0);
    }

    private static void promise16Good() {
        SamePassers x = check.told(Check.STREET);
        check.due("good with bumps", x.good(), false);
        String ground = "street 40 lanes 2 frame 0 to 8 sharp 1;say ww at 600;say vv at 0;";
        String one = "walker aa pram lane 0 from 0 right pace 9 lag 0;";
        check.due("good without musts", check.told(ground + one).good(), true);
        check.due("good, a must held", check.told(ground + one + "must aa vv 0;").good(), true);
        check.due("not good, a must missed", check.told(ground + one + "must aa vv 1;").good(), false);
        check.due("not good, gone on his word", check.told(ground + one + "must aa ww 39;").good(), false);
        check.due("not good, they bump", check.told(ground + one + "walker bb pram lane 0 from 0 left pace 1 lag 0;").good(), false);
        check.due("good, another lane", check.told(ground + one + "walker bb pram lane 1 from 0 left pace 1 lag 0;").good(), true);
        SamePassers at600 = check.told("street 4 lanes 1 frame 0 to 3 sharp 1;say ww at 600;say vv at 591;"
            + "walker cc pram lane 0 from 0 right pace 9 lag 0 on vv;walker dd pram lane 0 from 1 right pace 9 lag 0 on ww;");
        check.due("they bump at 600", at600.first(0, 1), 600);
        check.due("not good, they bump at 600", at600.good(), false);
        at600.late(0, 1);
        check.due("good, they would bump at 601", at600.good(), true);
    }

    private static void promise17Off() {
        SamePassers x = check.told(Check.STREET);
        check.due("off(0)", x.off(0), 0);
        check.due("off(1)", x.off(1), 0);
        x.late(0, 11);
        check.due("off of one late", x.off(0), 3);
        x.start(1, 0);
        check.due("off of one who is gone", x.off(1), 100);
        check.due("count(11)", x.count(11), 2);
        for (int must : new int[] {2, -1, Integer.MIN_VALUE}) {
            check.due("off of others", x.off(must), -1);
        }
    }

    private static void promise18Until() {
        // On the word at 80 he is at cell 80 / (pace + nth): 26, 20, 16, 13, 11 ..
        SamePassers x = check.told("street 40 lanes 1 frame 0 to 8 sharp 1;say ww at 80;"
            + "walker aa pram lane 0 from 0 right pace 3 lag 0;must aa ww 26;quick tempo + nth;");
        int[][] due = {{1, 1}, {6, 1}, {7, 2}, {10, 2}, {11, 3}, {13, 3}, {14, 4}, {26, -1}, {100, -1}, {0, -1}, {101, -1}};
        for (int[] d : due) {
            check.due("until(0, " + d[0] + ")", x.until(0, d[0]), d[1]);
        }
        // At take k he is at cell 80 / (3 + k), and 0 from k = 78 on: 1 at k = 60, 25 away from k = 38 on.
        check.due("until(0, 25)", x.until(0, 25), 38);
        x.late(0, 3);
        check.due("late counts in this take", x.until(0, 1), 0);
        x.late(0, 99);
        check.due("late counts in this take", x.until(0, 26), 0);
        x.take();
        check.due("as nobody is late in later ones", x.until(0, 25), 37);
        for (int i = 1; i < 60; i++) {
            x.take();
        }
        check.due("beyond take 60", x.until(0, 26), 18);
        check.due("until of others", x.until(1, 1), -1);
        check.due("until of others", x.until(-1, 1), -1);
        SamePassers edge = check.told("street 4 lanes 1 frame 0 to 3 sharp 1;say ww at 5;walker aa pram lane 0 from 0 right pace 1 lag 0;"
            + "must aa ww 0;quick 10 - 9 * (59 < nth);");
        check.due("until at 60", edge.until(0, 100), 60);
        SamePassers beyond = check.told("street 4 lanes 1 frame 0 to 3 sharp 1;say ww at 5;walker aa pram lane 0 from 0 right pace 1 lag 0;"
            + "must aa ww 0;quick 10 - 9 * (60 < nth);");
        check.due("not within 60", beyond.until(0, 100), -1);
        beyond.take();
        check.due("within 60 from now on", beyond.until(0, 100), 60);
    }

    private static void promise19Unknown() {
        check.due("unknown of nobody", new SamePassers().unknown(), 1000000);
        check.due("unknown of one known for sure", check.told(Check.STREET).unknown(), 0);
        StringBuilder text = new StringBuilder("street 4 lanes 4 frame 1 to 2 sharp 1;");
        for (char c = 'a'; c <= 'h'; c++) {
            text.append("walker p").append(c).append(" dog lane 0 from 0 right pace 1 lag 0;");
        }
        check.due("unknown of eight, 0.3 each, cut once", check.told(text + "odd 7;").unknown(), 65);
        check.due("unknown of eight, 0.1 each, cut", check.told(text + "odd 9;").unknown(), 0);
        check.due("unknown of eight, 0.9 each, cut", check.told(text + "odd 1;").unknown(), 430467);
        check.due("unknown of eight, not known", check.told(text + "odd 0;").unknown(), 1000000);
    }

    private static void promise24Row() {
        SamePassers x = check.told(Check.STREET);
        check.due("row(0, 40)", x.row(0, 40), 1 << 8 | 1 << 5);
        check.due("row(1, 10)", x.row(1, 10), 1 << 9 | 1 << 3);
        check.due("row(0, 61)", x.row(0, 61), 1 << 1);
        check.due("row(0, 600)", x.row(0, 600), 1 << 8);
        for (int[] other : new int[][] {{-1, 0}, {2, 0}, {0, -1}, {0, 601}}) {
            check.due("row of others", x.row(other[0], other[1]), -1);
        }
        SamePassers far = check.told("street 40 lanes 1 frame 0 to 8 sharp 1;walker aa pram lane 0 from 39 left pace 1 lag 0;"
            + "walker bb pram lane 0 from 31 left pace 1 lag 0;");
        check.due("row of cell 0", far.row(0, 31), 1L << 8 | 1);
        check.due("row of far cells", far.row(0, 0), 1L << 39 | 1L << 31);
    }

    private static void promise25Wrong() {
        SamePassers x = check.told(Check.STREET);
        check.due("wrong()", x.wrong(), 12);
        x.late(0, 90);
        check.due("wrong of one late", x.wrong(), 13);
        check.due("wrong without words", check.told("street 4 lanes 1 frame 0 to 3 sharp 1;walker aa dog lane 0 from 0 right pace 1 lag 0;").wrong(), 1);
    }

    private static void promise31Whose() {
        SamePassers x = check.told(Check.STREET);
        check.due("whose(5, 0, 40)", x.whose(5, 0, 40), 2);
        check.due("whose(5, 1, 40)", x.whose(5, 1, 40), 0);
        check.due("whose(1, 0, 61)", x.whose(1, 0, 61), 3);
        for (int[] other : new int[][] {{-1, 0, 0}, {10, 0, 0}, {0, -1, 0}, {0, 2, 0}, {0, 0, -1}, {0, 0, 601}}) {
            check.due("whose of others", x.whose(other[0], other[1], other[2]), -1);
        }
    }
}
