/** Edges of promises 20 to 23, 26, 27 and 30: LAGS, FULL, JUMPS, BEST, CHANGE, the OTHER side, NOTES. */
public final class EdgeCutTest {
    private static final String WIDE = "street 40 lanes 4 frame 0 to 39 sharp 1;";

    public static void main(String[] args) {
        Edges.run(EdgeCutTest.class);
    }

    private static String walker(String name, String rest) {
        return "walker " + name + " pram lane " + rest + ";";
    }

    /** So many who never bump, one behind the other in one lane, all in a frame on a word. */
    private static SamePassers row(int many) {
        StringBuilder text = new StringBuilder(WIDE + "say ww at 0;");
        for (int i = 0; i < many; i++) {
            text.append(walker("p" + (char) ('a' + i), "0 from " + i + " right pace 1 lag 0"));
        }
        return Edges.told(text.toString());
    }

    // Promise 20: "LAGS, what 0: together, 1 + i: of the i-th of these; NONE: others, none"

    private static void lagsDue(SamePassers x, int bits, long... due) {
        Edges.rowDue("lags of " + bits, what -> x.lags(bits, what), due);
        Edges.due("lags(" + bits + ", " + due.length + ")", x.lags(bits, due.length), -1);
        Edges.due("lags(" + bits + ", -1)", x.lags(bits, -1), -1);
    }

    /** One who must be at a cell on a word at 60, a cell a tenth from 0 on. */
    private static SamePassers must(int cell) {
        return Edges.told(WIDE + "say ww at 60;" + walker("aa", "0 from 0 right pace 1 lag 0") + "must aa ww " + cell + ";");
    }

    static void p20_lags_of1To4Walkers() {
        SamePassers x = row(8);
        lagsDue(x, 1, 0, 0);
        lagsDue(x, 3, 0, 0, 0);
        lagsDue(x, 7, 0, 0, 0, 0);
        lagsDue(x, 15, 0, 0, 0, 0, 0);
        lagsDue(x, 128, 0, 0);
        lagsDue(x, 240, 0, 0, 0, 0, 0);
    }

    static void p20_lags_of0And5WalkersAreNone() {
        SamePassers x = row(8);
        for (int what = -1; what <= 6; what++) {
            Edges.due("lags(0, " + what + ")", x.lags(0, what), -1);
            Edges.due("lags(31, " + what + ")", x.lags(31, what), -1);
            Edges.due("lags(255, " + what + ")", x.lags(255, what), -1);
        }
        Edges.due("lags(0, 0) of a new object", new SamePassers().lags(0, 0), -1);
        Edges.due("lags(1, 0) of a new object", new SamePassers().lags(1, 0), -1);
    }

    static void p20_lags_withNobodyAmongThemAreNone() {
        SamePassers x = row(3);
        lagsDue(x, 4, 0, 0);
        for (int bits : new int[] {8, 9, 12, 256, 257, -1, Integer.MIN_VALUE, Integer.MIN_VALUE + 1, 1 << 30}) {
            Edges.due("lags(" + bits + ", 0)", x.lags(bits, 0), -1);
        }
        SamePassers eight = row(8);
        for (int bits : new int[] {256, 257, Integer.MIN_VALUE, 1 << 30 | 1}) {
            Edges.due("lags(" + bits + ", 0)", eight.lags(bits, 0), -1);
        }
    }

    static void p20_lags_ofAnotherWhatAreNone() {
        SamePassers x = row(4);
        for (int what : new int[] {-1, -2, 3, 5, Integer.MIN_VALUE, Integer.MAX_VALUE}) {
            Edges.due("lags(3, " + what + ")", x.lags(3, what), -1);
        }
        Edges.due("lags(15, 4)", x.lags(15, 4), 0);
        Edges.due("lags(15, 5)", x.lags(15, 5), -1);
    }

    static void p20_lags_0IsTheLeast() {
        SamePassers x = Edges.told(WIDE + "say ww at 20;" + walker("aa", "0 from 0 right pace 1 lag 99") + "must aa ww 20;");
        lagsDue(x, 1, 0, 0);
    }

    static void p20_lags_23IsTheGreatest_24IsNone() {
        lagsDue(must(38), 1, 22, 22);
        lagsDue(must(37), 1, 23, 23);
        lagsDue(must(36), 1, -1, -1);
    }

    static void p20_lags_theGreatestTogetherIs92() {
        StringBuilder text = new StringBuilder(WIDE + "say ww at 60;");
        for (int i = 0; i < 4; i++) {
            String name = "p" + (char) ('a' + i);
            text.append(walker(name, i + " from 0 right pace 1 lag 0")).append("must ").append(name).append(" ww 37;");
        }
        lagsDue(Edges.told(text.toString()), 15, 92, 23, 23, 23, 23);
    }

    static void p20_lags_theLeastTogetherComesBeforeTheFirstRow() {
        // They can pass only where both change cells at once: if aa waits 5 less than bb, or 1, 7, 13 .. more.
        SamePassers x = Edges.told(WIDE + walker("aa", "0 from 0 right pace 1 lag 0") + walker("bb", "0 from 10 left pace 5 lag 0"));
        lagsDue(x, 3, 1, 1, 0);
        // bb leaves cells 1, 2, 3 at 3, 6, 9; aa comes to them at 1, 2, 3 and his lag.
        SamePassers y = Edges.told("street 4 lanes 1 frame 0 to 3 sharp 1;" + walker("aa", "0 from 0 right pace 1 lag 0")
            + walker("bb", "0 from 1 right pace 3 lag 0"));
        lagsDue(y, 3, 6, 6, 0);
    }

    static void p20_lags_whereNoneOfAllRowsHoldsAreNone() {
        // bb leaves cell 39 at 117 at the soonest, and aa comes there at 62 at the latest.
        SamePassers x = Edges.told(WIDE + walker("aa", "0 from 0 right pace 1 lag 0") + walker("bb", "0 from 1 right pace 3 lag 0"));
        lagsDue(x, 3, -1, -1, -1);
    }

    static void p20_lags_ofEqualOnesTheFirstRow() {
        // They meet at cell 1 unless one waits.
        SamePassers x = Edges.told(WIDE + walker("aa", "0 from 0 right pace 1 lag 0") + walker("bb", "0 from 2 left pace 1 lag 0"));
        lagsDue(x, 3, 1, 0, 1);
        SamePassers y = Edges.told(WIDE + walker("aa", "0 from 2 left pace 1 lag 0") + walker("bb", "0 from 0 right pace 1 lag 0")
            + walker("cc", "1 from 0 right pace 1 lag 0") + walker("dd", "1 from 2 left pace 1 lag 0"));
        lagsDue(y, 15, 2, 0, 1, 0, 1);
    }

    static void p20_lags_inPlaceOfTheOnesTold() {
        SamePassers x = Edges.told(WIDE + "say ww at 60;" + walker("aa", "0 from 0 right pace 2 lag 99") + "must aa ww 25;");
        // 50 or 51 tenths for 25 cells: a lag of 9 or 10.
        lagsDue(x, 1, 9, 9);
        Edges.due("the lag told stays", x.walker(0, 5), 99);
    }

    static void p20_lags_behindTheWordOfTheCue() {
        SamePassers x = Edges.told(WIDE + "say go at 50;say ww at 60;" + walker("aa", "0 from 0 right pace 1 lag 0 on go")
            + "walker bb stray lane 1 from 0 right pace 1 lag 0 on go;must aa ww 5;must bb ww 39;");
        lagsDue(x, 1, 5, 5);
        // The stray one does not heed go, and is at 39 on 60 only if he waited 21.
        lagsDue(x, 2, 21, 21);
    }

    static void p20_lags_noneOfThemLate() {
        SamePassers x = must(39);
        x.late(0, 50);
        lagsDue(x, 1, 21, 21);
        // Late by 30 he would be there with no lag at all.
        SamePassers y = must(30);
        y.late(0, 30);
        lagsDue(y, 1, -1, -1);
    }

    static void p20_lags_inThisTake() {
        SamePassers x = Edges.told(WIDE + "say ww at 60;" + walker("aa", "0 from 0 right pace 1 lag 0") + "must aa ww 25;quick tempo + nth;");
        lagsDue(x, 1, -1, -1);
        x.take();
        lagsDue(x, 1, 9, 9);
        x.start(0, 1);
        lagsDue(x, 1, 11, 11);
        x.turn(0);
        lagsDue(x, 1, -1, -1);
    }

    static void p20_lags_whatTheOthersMustAndWhomTheyBumpDoesNotMatter() {
        SamePassers x = Edges.told(WIDE + "say ww at 60;" + walker("aa", "0 from 0 right pace 1 lag 0")
            + walker("bb", "0 from 0 right pace 1 lag 0") + "must bb ww 3;");
        lagsDue(x, 1, 0, 0);
        lagsDue(x, 2, -1, -1);
        lagsDue(x, 3, -1, -1, -1);
    }

    static void p20_lags_ofAllTheirMusts() {
        String text = WIDE + "say wa at 10;say wb at 60;" + walker("aa", "0 from 0 right pace 2 lag 0");
        lagsDue(Edges.told(text + "must aa wa 0;"), 1, 9, 9);
        lagsDue(Edges.told(text + "must aa wa 0;must aa wb 25;"), 1, 9, 9);
        lagsDue(Edges.told(text + "must aa wb 24;must aa wa 0;"), 1, 11, 11);
        lagsDue(Edges.told(text + "must aa wa 1;must aa wb 25;"), 1, -1, -1);
    }

    static void p20_lags_twoFromOneCellBumpAt0WhateverTheirLags() {
        SamePassers x = Edges.told(WIDE + walker("aa", "0 from 5 right pace 1 lag 0") + walker("bb", "0 from 5 left pace 1 lag 9"));
        lagsDue(x, 3, -1, -1, -1);
        lagsDue(x, 1, 0, 0);
        SamePassers lanes = Edges.told(WIDE + walker("aa", "0 from 5 right pace 1 lag 0") + walker("bb", "1 from 5 left pace 1 lag 9"));
        lagsDue(lanes, 3, 0, 0, 0);
    }

    static void p20_lags_aBumpAt600Counts_at601Not() {
        // aa comes to bb's cell at the word, 1 and his lag; bb stands there all the time.
        String text = "%s" + walker("aa", "0 from 0 right pace 1 lag 0 on go") + walker("bb", "0 from 1 right pace 1 lag 0 on end");
        SamePassers x = Edges.told(String.format(text, WIDE + "say go at 599;say end at 600;"));
        lagsDue(x, 3, 1, 1, 0);
        SamePassers y = Edges.told(String.format(text, WIDE + "say go at 600;say end at 600;"));
        lagsDue(y, 3, 0, 0, 0);
        SamePassers z = Edges.told(String.format(text, WIDE + "say go at 577;say end at 600;"));
        lagsDue(z, 3, 23, 23, 0);
        SamePassers none = Edges.told(String.format(text, WIDE + "say go at 576;say end at 600;"));
        lagsDue(none, 3, -1, -1, -1);
    }

    static void p20_lags_aBumpIsPutOffBeyond600IfBothWait() {
        // One must wait 6; he is then at cell 1 till 590, at 2 till 595, at 3 till 600: the other one, 18 late, would be at 3 at 601.
        String ground = WIDE + "say go at 580;say end at 590;";
        String quick = "0 from 0 right pace 1 lag 0 on go";
        String slow = "0 from 1 right pace 5 lag 0 on go";
        lagsDue(Edges.told(ground + walker("aa", quick) + walker("bb", slow) + "must bb end 1;"), 3, 24, 18, 6);
        lagsDue(Edges.told(ground + walker("aa", slow) + walker("bb", quick) + "must aa end 1;"), 3, 24, 6, 18);
    }

    static void p20_lags_leaveAllAsItWas() {
        Edges.leavesAll("lags(1, 0)", x -> x.lags(1, 0), Edges.rich().lags(1, 0));
        Edges.leavesAll("lags(7, 0)", x -> x.lags(7, 0), Edges.rich().lags(7, 0));
        Edges.leavesAll("lags(8, 0)", x -> x.lags(8, 0), -1);
    }

    // "FULL: the fewest WALKERS so that on each word so many of them (0 to 8) are SEEN"

    static void p21_full_0IsNobody() {
        Edges.due("full(0)", row(8).full(0), 0);
        Edges.due("full(0) of nobody", Edges.told(WIDE + "say ww at 0;").full(0), 0);
        Edges.due("full(0) of a new object", new SamePassers().full(0), 0);
    }

    static void p21_full_8IsTheMost() {
        SamePassers x = row(8);
        Edges.rowDue("full", x::full, 0, 1, 3, 7, 15, 31, 63, 127, 255, -1);
    }

    static void p21_full_minus1And9AreNone() {
        SamePassers x = row(8);
        Edges.due("full(-1)", x.full(-1), -1);
        Edges.due("full(9)", x.full(9), -1);
        for (int far : Edges.FAR) {
            Edges.due("full(" + far + ")", x.full(far), -1);
        }
        Edges.due("full(9) without words", new SamePassers().full(9), -1);
        Edges.due("full(-1) without words", new SamePassers().full(-1), -1);
    }

    static void p21_full_allAreNotEnoughIsNone() {
        Edges.due("full(8) of seven", row(7).full(8), -1);
        Edges.due("full(7) of seven", row(7).full(7), 127);
        Edges.due("full(1) of nobody", Edges.told(WIDE + "say ww at 0;").full(1), -1);
        SamePassers unseen = Edges.told("street 9 lanes 1 frame 3 to 3 sharp 1;say ww at 0;" + walker("aa", "0 from 2 right pace 1 lag 0")
            + walker("bb", "0 from 3 right pace 1 lag 0") + walker("cc", "0 from 4 right pace 1 lag 0"));
        Edges.rowDue("full", unseen::full, 0, 2, -1);
    }

    static void p21_full_withoutWordsNobodyIsNeeded() {
        for (int many = 0; many <= 8; many++) {
            Edges.due("full(" + many + ") of a new object", new SamePassers().full(many), 0);
            Edges.due("full(" + many + ")", Edges.told(WIDE + walker("aa", "0 from 0 right pace 1 lag 0")).full(many), 0);
        }
    }

    static void p21_full_theFewestComeBeforeTheLeastSet() {
        // aa is seen on the first word alone, bb on the second, cc on both.
        SamePassers x = Edges.told("street 9 lanes 1 frame 3 to 4 sharp 1;say wa at 0;say wb at 1;" + walker("aa", "0 from 4 right pace 1 lag 0")
            + walker("bb", "0 from 2 right pace 1 lag 0") + walker("cc", "0 from 3 right pace 1 lag 0"));
        Edges.rowDue("full", x::full, 0, 4, 7, -1);
        x.start(2, 8);
        Edges.rowDue("full without cc", x::full, 0, 3, -1);
    }

    static void p21_full_moreThanSoManyOnAWordAreWell() {
        // Each of three is seen on the first word, and on one more each.
        SamePassers x = Edges.told("street 9 lanes 1 frame 3 to 5 sharp 1;say wa at 0;say wb at 3;" + walker("aa", "0 from 3 right pace 1 lag 1")
            + walker("bb", "0 from 5 left pace 1 lag 0") + walker("cc", "0 from 4 right pace 1 lag 2"));
        // On wb: aa at 5, bb at 2 (unseen), cc at 5.
        Edges.rowDue("full", x::full, 0, 1, 5, -1);
    }

    static void p21_full_sharpOrBlurredIsSeen() {
        SamePassers x = Edges.told("street 9 lanes 2 frame 3 to 5 sharp 1;say wa at 0;" + walker("aa", "1 from 3 right pace 1 lag 0"));
        Edges.due("full(1)", x.full(1), 1);
    }

    static void p21_full_leavesAllAsItWas() {
        Edges.leavesAll("full(1)", x -> x.full(1), Edges.rich().full(1));
        Edges.leavesAll("full(9)", x -> x.full(9), -1);
    }

    // Promise 22: "JUMP of a WALKER (NONE: of all together); -2: others"

    private static final String TWO_WORDS = "street 20 lanes 1 frame 3 to 12 sharp 1;say go at 20;say end at 30;"
        + walker("aa", "0 from 0 right pace 2 lag 0") + walker("bb", "0 from 12 left pace 5 lag 0") + "quick tempo + nth;";

    static void p22_jump_takes0And60_minus1And61AreOthers() {
        SamePassers x = Edges.told(TWO_WORDS);
        // In take 60 aa is at 0 on go, unseen; bb is still at 12.
        Edges.due("0 to 60", x.jump(0, 0, 0, 60, 0), 10);
        Edges.due("60 to 0", x.jump(0, 60, 0, 0, 0), 10);
        Edges.due("60 to 60", x.jump(-1, 60, 0, 60, 0), 0);
        Edges.due("bb, 0 to 60", x.jump(1, 0, 0, 60, 0), 4);
        for (int other : new int[] {-1, 61, Integer.MIN_VALUE, Integer.MAX_VALUE}) {
            Edges.due("from take " + other, x.jump(0, other, 0, 0, 0), -2);
            Edges.due("to take " + other, x.jump(0, 0, 0, other, 0), -2);
            Edges.due("of all from take " + other, x.jump(-1, other, 0, 0, 0), -2);
        }
    }

    static void p22_jump_wordsBesideTheToldAreOthers() {
        SamePassers x = Edges.told(TWO_WORDS);
        Edges.due("the last word", x.jump(1, 0, 1, 0, 1), 0);
        for (int other : new int[] {-1, 2, Integer.MIN_VALUE, Integer.MAX_VALUE}) {
            Edges.due("from word " + other, x.jump(0, 0, other, 0, 0), -2);
            Edges.due("to word " + other, x.jump(0, 0, 0, 0, other), -2);
            Edges.due("of all to word " + other, x.jump(-1, 0, 0, 0, other), -2);
        }
        Edges.due("of a new object", new SamePassers().jump(-1, 0, 0, 0, 0), -2);
    }

    static void p22_jump_ofNobodyIsOthers() {
        SamePassers x = Edges.told(TWO_WORDS);
        for (int other : new int[] {-2, 2, Integer.MIN_VALUE, Integer.MAX_VALUE}) {
            Edges.due("of " + other, x.jump(other, 0, 0, 0, 0), -2);
        }
        Edges.due("of the last", x.jump(1, 0, 0, 0, 0), 0);
    }

    static void p22_jump_ofAllTogether() {
        SamePassers x = Edges.told(TWO_WORDS);
        // aa is at 10, then 6; bb at 8, then 9.
        Edges.due("aa", x.jump(0, 0, 0, 1, 0), 4);
        Edges.due("bb", x.jump(1, 0, 0, 1, 0), 1);
        Edges.due("all", x.jump(-1, 0, 0, 1, 0), 5);
        Edges.due("all of nobody", Edges.told(WIDE + "say ww at 0;").jump(-1, 0, 0, 60, 0), 0);
    }

    static void p22_jump_seenInBothInOneAloneOrInNone() {
        SamePassers x = Edges.told("street 9 lanes 1 frame 3 to 5 sharp 1;say wa at 0;say wb at 1;say wc at 2;say wd at 3;say we at 4;say wf at 9;"
            + walker("aa", "0 from 2 right pace 1 lag 0"));
        // On the words he is at 2 (unseen), 3, 4, 5, 6 (unseen), gone.
        int[][] due = {{0, 3, 3, 3, 0, 0}, {3, 0, 1, 2, 3, 3}, {3, 1, 0, 1, 3, 3}, {3, 2, 1, 0, 3, 3}, {0, 3, 3, 3, 0, 0}, {0, 3, 3, 3, 0, 0}};
        for (int one = 0; one < 6; one++) {
            for (int other = 0; other < 6; other++) {
                Edges.due("from word " + one + " to " + other, x.jump(0, 0, one, 0, other), due[one][other]);
            }
        }
    }

    static void p22_jump_byAFrameOf1AndOf40Cells() {
        SamePassers one = Edges.told("street 40 lanes 1 frame 7 to 7 sharp 1;say wa at 0;say wb at 1;" + walker("aa", "0 from 7 right pace 1 lag 0"));
        Edges.due("one cell", one.jump(0, 0, 0, 0, 1), 1);
        StringBuilder text = new StringBuilder("street 40 lanes 1 frame 0 to 39 sharp 1;say wa at 0;say wb at 1;say wc at 600;");
        for (int i = 0; i < 8; i++) {
            text.append(walker("p" + (char) ('a' + i), "0 from 39 right pace 1 lag 0"));
        }
        SamePassers forty = Edges.told(text.toString());
        Edges.due("forty cells", forty.jump(7, 0, 0, 0, 1), 40);
        Edges.due("forty cells, of all eight", forty.jump(-1, 0, 0, 0, 2), 320);
    }

    static void p22_jump_39CellsApart() {
        SamePassers x = Edges.told("street 40 lanes 1 frame 0 to 39 sharp 1;say wa at 0;say wb at 39;" + walker("aa", "0 from 0 right pace 1 lag 0"));
        Edges.due("apart", x.jump(0, 0, 0, 0, 1), 39);
        Edges.due("apart", x.jump(0, 0, 1, 0, 0), 39);
    }

    static void p22_jump_nobodyBeingLate() {
        SamePassers x = Edges.told(TWO_WORDS);
        x.late(0, 99);
        x.late(1, 99);
        Edges.due("all", x.jump(-1, 0, 0, 1, 0), 5);
    }

    static void p22_jump_whateverTheTakeIs() {
        SamePassers x = Edges.told(TWO_WORDS);
        for (int i = 0; i < 60; i++) {
            x.take();
        }
        Edges.due("all", x.jump(-1, 0, 0, 1, 0), 5);
    }

    static void p22_jump_leavesAllAsItWas() {
        Edges.leavesAll("jump", x -> x.jump(-1, 0, 0, 60, 1), Edges.rich().jump(-1, 0, 0, 60, 1));
        Edges.leavesAll("jump of others", x -> x.jump(-1, 0, 0, 61, 1), -2);
    }

    // "BEST two takes (0 to 11, the first less) for a word: by which all JUMPS together are the least; of equal ones the first two"

    /** One who is, on the only word at 600, in each of takes 0 to 9 two cells or more from where he is in any other one. */
    private static SamePassers apart(String last) {
        return Edges.told("street 40 lanes 1 frame 0 to 39 sharp 1;say ww at 600;" + walker("aa", "0 from 0 right pace 1 lag 0")
            + "quick 16+(nth=1)+(nth=2)*2+(nth=3)*3+(nth=4)*5+(nth=5)*7+(nth=6)*9+(nth=7)*12+(nth=8)*16+(nth=9)*21+" + last + ";");
    }

    private static void bestDue(SamePassers x, int word, int jumps, int one, int other) {
        Edges.rowDue("best", what -> x.best(word, what), jumps, one, other, -1);
    }

    static void p23_best_takes10And11AreTheLast() {
        bestDue(apart("(9<nth)*27"), 0, 0, 10, 11);
    }

    static void p23_best_take12IsNoneOfThem() {
        // In take 10 he is at 13, in takes 11 and 12 at 12.
        bestDue(apart("(nth=10)*27+(10<nth)*34"), 0, 1, 10, 11);
    }

    static void p23_best_aTakeAndItselfAreNotTwo() {
        bestDue(apart("(nth=10)*27+(nth=11)*44"), 0, 2, 0, 1);
    }

    static void p23_best_ofEqualOnesTheFirstTwo() {
        bestDue(row(8), 0, 0, 0, 1);
        // Takes 0 and 11 are alike, and so are 1 and 2.
        SamePassers x = Edges.told("street 40 lanes 1 frame 0 to 39 sharp 1;say ww at 600;" + walker("aa", "0 from 0 right pace 1 lag 0")
            + "quick 16+(0<nth)*(nth<3)+(nth=3)*3+(nth=4)*5+(nth=5)*7+(nth=6)*9+(nth=7)*12+(nth=8)*16+(nth=9)*21+(nth=10)*27;");
        bestDue(x, 0, 0, 0, 11);
    }

    // Eight stand at 0 or walk to 39; from take to take four of them change, so that any two takes are that far apart.
    private static SamePassers farApart() {
        int[] changes = {0b11110000, 0b11001100, 0b10101010, 0b11111111};
        StringBuilder text = new StringBuilder(WIDE + "say ww at 39;");
        StringBuilder slow = new StringBuilder();
        for (int i = 0; i < 8; i++) {
            text.append(walker("p" + (char) ('a' + i), "0 from 0 right pace " + (i + 1) + " lag 0"));
            slow.append(i > 0 ? "+" : "").append("(tempo=").append(i + 1).append(")*(0");
            boolean stands = false;
            for (int take = 1; take < 12; take++) {
                if ((changes[Integer.numberOfTrailingZeros(take)] >> i & 1) != 0) {
                    slow.append(stands ? "-" : "+").append("(").append(take - 1).append("<nth)");
                    stands = !stands;
                }
            }
            slow.append(")");
        }
        return Edges.told(text + "quick 1+98*(" + slow + ");");
    }

    static void p23_best_theLeastOfEightFarApart() {
        bestDue(farApart(), 0, 156, 0, 1);
    }

    static void p23_best_ofNobody() {
        bestDue(Edges.told(WIDE + "say ww at 0;"), 0, 0, 0, 1);
    }

    static void p23_best_ofTheLastWord_besideTheWordsIsNone() {
        SamePassers x = Edges.told(TWO_WORDS);
        Edges.due("best(1, 1) is of two", x.best(1, 1) < x.best(1, 2), true);
        for (int other : new int[] {-1, 2, Integer.MIN_VALUE, Integer.MAX_VALUE}) {
            Edges.due("best(" + other + ", 0)", x.best(other, 0), -1);
        }
        Edges.due("best(0, 0) of a new object", new SamePassers().best(0, 0), -1);
    }

    static void p23_best_whatMinus1And3AreNone() {
        SamePassers x = Edges.told(TWO_WORDS);
        Edges.due("best(0, -1)", x.best(0, -1), -1);
        Edges.due("best(0, 3)", x.best(0, 3), -1);
        for (int far : Edges.FAR) {
            Edges.due("best(0, " + far + ")", x.best(0, far), -1);
        }
    }

    static void p23_best_nobodyBeingLateWhateverTheTakeIs() {
        SamePassers x = apart("(9<nth)*27");
        for (int i = 0; i < 60; i++) {
            x.take();
        }
        x.late(0, 99);
        bestDue(x, 0, 0, 10, 11);
    }

    static void p23_best_leavesAllAsItWas() {
        Edges.leavesAll("best(0, 0)", x -> x.best(0, 0), Edges.rich().best(0, 0));
        Edges.leavesAll("best(2, 0)", x -> x.best(2, 0), -1);
    }

    // "CHANGE: others that could be taken for one, unseen: of his KIND, on each word both SEEN, no farther than so many cells apart, or neither"

    private static SamePassers standing(String frame, int... cells) {
        StringBuilder text = new StringBuilder("street 40 lanes 1 frame " + frame + " sharp 1;say wa at 0;say wb at 600;");
        for (int i = 0; i < cells.length; i++) {
            text.append(walker("p" + (char) ('a' + i), "0 from " + cells[i] + " right pace 1 lag 0 on wb"));
        }
        return Edges.told(text.toString());
    }

    static void p26_change_cells0And40_minus1And41AreNone() {
        SamePassers x = standing("0 to 39", 0, 0, 1, 39);
        Edges.due("change(0, 0)", x.change(0, 0), 2);
        Edges.due("change(0, 40)", x.change(0, 40), 14);
        Edges.due("change(0, -1)", x.change(0, -1), -1);
        Edges.due("change(0, 41)", x.change(0, 41), -1);
        for (int far : Edges.FAR) {
            Edges.due("change(0, " + far + ")", x.change(0, far), -1);
        }
    }

    static void p26_change_noFartherThanSoManyCells() {
        SamePassers x = standing("0 to 39", 10, 7, 13, 6, 14, 39);
        Edges.due("change(0, 2)", x.change(0, 2), 0);
        Edges.due("change(0, 3)", x.change(0, 3), 6);
        Edges.due("change(0, 4)", x.change(0, 4), 30);
        Edges.due("change(0, 28)", x.change(0, 28), 30);
        Edges.due("change(0, 29)", x.change(0, 29), 62);
        SamePassers ends = standing("0 to 39", 0, 39);
        Edges.due("change(0, 38)", ends.change(0, 38), 0);
        Edges.due("change(0, 39)", ends.change(0, 39), 2);
    }

    static void p26_change_bothSeenOrNeither() {
        // Of the frame's edges 5 and 9 the ones beside are unseen.
        SamePassers x = standing("5 to 9", 5, 9, 4, 10, 39);
        Edges.due("of one seen", x.change(0, 40), 2);
        Edges.due("of one unseen, however far", x.change(2, 0), 24);
        Edges.due("of the last", x.change(4, 0), 12);
    }

    static void p26_change_onEachWord() {
        SamePassers x = Edges.told("street 9 lanes 1 frame 0 to 8 sharp 1;say wa at 0;say wb at 2;" + walker("aa", "0 from 2 right pace 1 lag 0")
            + walker("bb", "0 from 2 right pace 1 lag 1") + walker("cc", "0 from 3 right pace 1 lag 1") + walker("dd", "0 from 8 right pace 1 lag 0"));
        // On wa 2, 2, 3, 8; on wb 4, 3, 4, gone.
        Edges.due("change(0, 0)", x.change(0, 0), 0);
        Edges.due("change(0, 1)", x.change(0, 1), 6);
        Edges.due("change(0, 40)", x.change(0, 40), 6);
    }

    static void p26_change_ofHisKindAlone() {
        StringBuilder text = new StringBuilder("street 9 lanes 2 frame 0 to 8 sharp 1;say ww at 0;");
        String[] kinds = {"plain", "pram", "dog", "stray"};
        for (int i = 0; i < 8; i++) {
            text.append("walker p").append((char) ('a' + i)).append(' ').append(kinds[i % 4]).append(" lane ").append(i / 4).append(" from 0 right pace 1 lag 0;");
        }
        SamePassers x = Edges.told(text.toString());
        Edges.rowDue("change", walker -> x.change(walker, 0), 16, 32, 64, 128, 1, 2, 4, 8, -1);
    }

    static void p26_change_withoutWordsAreAllOfHisKind() {
        SamePassers x = Edges.told(WIDE + walker("aa", "0 from 0 right pace 1 lag 0") + walker("bb", "3 from 39 left pace 9 lag 9")
            + "walker cc dog lane 0 from 0 right pace 1 lag 0;");
        Edges.rowDue("change", walker -> x.change(walker, 0), 2, 1, 0);
    }

    static void p26_change_ofNobodyIsNone() {
        SamePassers x = Edges.rich();
        for (int other : new int[] {-1, 3, Integer.MIN_VALUE, Integer.MAX_VALUE}) {
            Edges.due("change(" + other + ", 0)", x.change(other, 0), -1);
        }
        Edges.due("change(0, 0) of a new object", new SamePassers().change(0, 0), -1);
    }

    static void p26_change_leavesAllAsItWas() {
        Edges.leavesAll("change(0, 40)", x -> x.change(0, 40), Edges.rich().change(0, 40));
        Edges.leavesAll("change(0, 41)", x -> x.change(0, 41), -1);
        Edges.leavesAll("change(3, 0)", x -> x.change(3, 0), -1);
    }

    // "OTHER side: .. the cell as far from the frame's other end; his lane from behind"; promise 27: "-2: others"

    static void p27_other_atTheEdgesOfTheFrame() {
        SamePassers x = standing("5 to 9", 4, 5, 6, 7, 8, 9, 10);
        Edges.rowDue("other", walker -> x.other(walker, 0, 0), -1, 9, 8, 7, 6, 5, -1);
    }

    static void p27_other_inAFrameOf1AndOf40Cells() {
        Edges.due("one cell", standing("7 to 7", 7).other(0, 1, 0), 7);
        SamePassers x = standing("0 to 39", 0, 39);
        Edges.rowDue("forty cells", walker -> x.other(walker, 1, 0), 39, 0);
    }

    static void p27_other_ofOneGoneIsNone_butHisLaneIsThere() {
        SamePassers x = Edges.told("street 9 lanes 2 frame 0 to 8 sharp 1;say ww at 1;" + walker("aa", "0 from 8 right pace 1 lag 0"));
        Edges.due("cell", x.other(0, 0, 0), -1);
        Edges.due("lane", x.other(0, 0, 1), 1);
    }

    static void p27_other_lanesFromBehind() {
        SamePassers x = Edges.told(WIDE + "say ww at 0;" + walker("aa", "0 from 0 right pace 1 lag 0") + walker("bb", "1 from 0 right pace 1 lag 0")
            + walker("cc", "2 from 0 right pace 1 lag 0") + walker("dd", "3 from 0 right pace 1 lag 0"));
        Edges.rowDue("lane", walker -> x.other(walker, 0, 1), 3, 2, 1, 0);
        Edges.due("one lane", standing("0 to 0", 0).other(0, 0, 1), 0);
    }

    static void p27_other_whatMinus1And2AreOthers() {
        SamePassers x = standing("5 to 9", 5);
        Edges.due("other(0, 0, -1)", x.other(0, 0, -1), -2);
        Edges.due("other(0, 0, 2)", x.other(0, 0, 2), -2);
        for (int far : Edges.FAR) {
            Edges.due("other(0, 0, " + far + ")", x.other(0, 0, far), -2);
        }
    }

    static void p27_other_wordsBesideTheToldAreOthers() {
        SamePassers x = standing("5 to 9", 5);
        for (int what = 0; what <= 1; what++) {
            for (int other : new int[] {-1, 2, Integer.MIN_VALUE, Integer.MAX_VALUE}) {
                Edges.due("other(0, " + other + ", " + what + ")", x.other(0, other, what), -2);
            }
        }
    }

    static void p27_other_ofNobodyIsOthers() {
        SamePassers x = standing("5 to 9", 5);
        for (int what = 0; what <= 1; what++) {
            for (int other : new int[] {-1, 1, Integer.MIN_VALUE, Integer.MAX_VALUE}) {
                Edges.due("other(" + other + ", 0, " + what + ")", x.other(other, 0, what), -2);
            }
        }
        Edges.due("other(0, 0, 0) of a new object", new SamePassers().other(0, 0, 0), -2);
    }

    static void p27_other_inThisTakeAsLateAsHeIs() {
        SamePassers x = Edges.told("street 9 lanes 1 frame 0 to 8 sharp 1;say ww at 4;" + walker("aa", "0 from 0 right pace 1 lag 0") + "quick tempo + nth;");
        Edges.due("take 0", x.other(0, 0, 0), 4);
        x.late(0, 1);
        Edges.due("late", x.other(0, 0, 0), 5);
        x.take();
        Edges.due("take 1", x.other(0, 0, 0), 6);
    }

    static void p27_other_leavesAllAsItWas() {
        Edges.leavesAll("other(0, 1, 0)", x -> x.other(0, 1, 0), Edges.rich().other(0, 1, 0));
        Edges.leavesAll("other(0, 1, 2)", x -> x.other(0, 1, 2), -2);
        Edges.leavesAll("other(0, 2, 0)", x -> x.other(0, 2, 0), -2);
        Edges.leavesAll("other(3, 0, 0)", x -> x.other(3, 0, 0), -2);
    }

    // "NOTES in so many seconds (0 to 30) .. each takes one second and as many as his lane"; promise 30: "NONE: others, no word"

    /** On the word at 40 one of pace p has gone 40 / p cells in take 0, 40 / (p + 1) in take 1. */
    private static SamePassers inTake1(String walkers) {
        SamePassers x = Edges.told(WIDE + "say ww at 40;say vv at 0;" + walkers + "quick tempo + nth;");
        x.take();
        return x;
    }

    static void p30_notes_0And30_minus1And31AreNone() {
        SamePassers x = inTake1(walker("aa", "0 from 0 right pace 2 lag 0"));
        Edges.due("notes(0)", x.notes(0), 0);
        Edges.due("notes(30)", x.notes(30), 1);
        Edges.due("notes(-1)", x.notes(-1), -1);
        Edges.due("notes(31)", x.notes(31), -1);
        for (int far : Edges.FAR) {
            Edges.due("notes(" + far + ")", x.notes(far), -1);
        }
    }

    static void p30_notes_withoutAWordAreNone() {
        for (int seconds : new int[] {0, 1, 30}) {
            Edges.due("of a new object", new SamePassers().notes(seconds), -1);
            Edges.due("of one", Edges.told(WIDE + walker("aa", "0 from 0 right pace 2 lag 0")).notes(seconds), -1);
        }
    }

    static void p30_notes_ofNobodyAre0() {
        Edges.due("notes(30)", Edges.told(WIDE + "say ww at 0;").notes(30), 0);
    }

    static void p30_notes_oneSecondAndAsManyAsHisLane() {
        for (int lane = 0; lane < 4; lane++) {
            SamePassers x = inTake1(walker("aa", lane + " from 0 right pace 2 lag 0"));
            Edges.due("lane " + lane + " in too few seconds", x.notes(lane), 0);
            Edges.due("lane " + lane + " in just as many", x.notes(lane + 1), 1);
        }
    }

    static void p30_notes_theMostWorthTogether() {
        // aa jumps by 7 in 4 seconds, bb, cc and dd by 3 in one each.
        SamePassers x = inTake1(walker("aa", "3 from 0 right pace 2 lag 0") + walker("bb", "0 from 0 right pace 3 lag 0")
            + walker("cc", "0 from 0 right pace 3 lag 0") + walker("dd", "0 from 0 right pace 3 lag 0"));
        Edges.rowDue("notes", x::notes, 0, 2, 6, 14, 14, 3, 7, 15, 15);
    }

    static void p30_notes_ofEqualOnesTheLeastSet() {
        SamePassers x = inTake1(walker("aa", "1 from 0 right pace 2 lag 0") + walker("bb", "0 from 0 right pace 2 lag 0")
            + walker("cc", "0 from 0 right pace 2 lag 0"));
        Edges.rowDue("notes", x::notes, 0, 2, 6, 3, 7);
    }

    static void p30_notes_whoJumpsBy0IsLeftOut() {
        SamePassers x = inTake1(walker("aa", "0 from 5 right pace 2 lag 99") + walker("bb", "0 from 0 right pace 2 lag 0"));
        Edges.due("notes(30)", x.notes(30), 2);
    }

    static void p30_notes_whoJumpsBy1IsWorth1() {
        // On the word at 40 he is at cell 5 in take 0, at 4 in take 1.
        SamePassers x = inTake1(walker("aa", "0 from 0 right pace 8 lag 0"));
        Edges.due("jump", x.jump(0, 0, 0, 1, 0), 1);
        Edges.due("notes(1)", x.notes(1), 1);
        Edges.due("notes(0)", x.notes(0), 0);
    }

    static void p30_notes_of8InTheLastLaneOnly7FitIn30() {
        StringBuilder text = new StringBuilder();
        for (int i = 0; i < 8; i++) {
            text.append(walker("p" + (char) ('a' + i), "3 from 0 right pace 2 lag 0"));
        }
        SamePassers x = inTake1(text.toString());
        Edges.due("notes(27)", x.notes(27), 63);
        Edges.due("notes(28)", x.notes(28), 127);
        Edges.due("notes(30)", x.notes(30), 127);
    }

    static void p30_notes_of8InTheFirstLaneAllFitIn8() {
        StringBuilder text = new StringBuilder();
        for (int i = 0; i < 8; i++) {
            text.append(walker("p" + (char) ('a' + i), "0 from 0 right pace 2 lag 0"));
        }
        SamePassers x = inTake1(text.toString());
        Edges.due("notes(7)", x.notes(7), 127);
        Edges.due("notes(8)", x.notes(8), 255);
    }

    static void p30_notes_inTake0NobodyIsWorthAnything() {
        Edges.due("notes(30)", row(8).notes(30), 0);
    }

    static void p30_notes_areOfWord0AloneNobodyBeingLate() {
        SamePassers x = Edges.told(WIDE + "say ww at 0;say vv at 40;" + walker("aa", "0 from 0 right pace 2 lag 0") + "quick tempo + nth;");
        x.take();
        Edges.due("on word 0 he stands", x.notes(30), 0);
        SamePassers y = inTake1(walker("aa", "0 from 0 right pace 2 lag 0"));
        y.late(0, 99);
        Edges.due("late", y.notes(30), 1);
        SamePassers z = Edges.told(WIDE + "say ww at 40;" + walker("aa", "0 from 0 right pace 2 lag 0"));
        z.late(0, 99);
        Edges.due("late in take 0", z.notes(30), 0);
    }

    static void p30_notes_leaveAllAsItWas() {
        Edges.leavesAll("notes(30)", x -> x.notes(30), Edges.rich().notes(30));
        Edges.leavesAll("notes(31)", x -> x.notes(31), -1);
    }
}
