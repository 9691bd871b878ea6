/** Edges of promises 5, 6, 13 to 19, 24, 25 and 31: where all are, SEEN, BUMPS, musts, who is KNOWN. */
public final class EdgeWalkTest {
    private static final String FOUR = "street 4 lanes 1 frame 0 to 3 sharp 1;";

    public static void main(String[] args) {
        Edges.run(EdgeWalkTest.class);
    }

    /** One alone on a street of four cells, told by his kind and what comes behind it. */
    private static SamePassers alone(String kind, String rest) {
        return Edges.told(FOUR + "walker aa " + kind + " lane 0 " + rest);
    }

    private static void whereDue(SamePassers x, int... pairs) {
        Edges.timesDue("where", tenth -> x.where(0, tenth), pairs);
    }

    private static SamePassers eight() {
        StringBuilder text = new StringBuilder("street 9 lanes 1 frame 0 to 8 sharp 1;say ww at 0;");
        for (int i = 0; i < 8; i++) {
            text.append("walker p").append((char) ('a' + i)).append(" pram lane 0 from ").append(i).append(" right pace 1 lag 0;");
        }
        return Edges.told(text.toString());
    }

    // Promise 5: "Of a WALKER, what 0: KIND .. 9: KNOWN; NONE: others"

    static void p05_walker_whatMinus1And10AreNone() {
        SamePassers x = Edges.rich();
        Edges.due("walker(0, -1)", x.walker(0, -1), -1);
        Edges.due("walker(0, 10)", x.walker(0, 10), -1);
        for (int far : Edges.FAR) {
            Edges.due("walker(0, " + far + ")", x.walker(0, far), -1);
        }
    }

    static void p05_walker_ofNobodyIsNone() {
        SamePassers x = Edges.rich();
        for (int what = 0; what <= 9; what++) {
            Edges.due("walker(-1, " + what + ")", x.walker(-1, what), -1);
            Edges.due("walker(3, " + what + ")", x.walker(3, what), -1);
            Edges.due("walker(0, " + what + ") of a new object", new SamePassers().walker(0, what), -1);
        }
        for (int far : Edges.FAR) {
            Edges.due("walker(" + far + ", 0)", x.walker(far, 0), -1);
        }
    }

    static void p05_walker_theEighthIsOne_theNinthIsNone() {
        Edges.due("walker(7, 2)", eight().walker(7, 2), 7);
        Edges.due("walker(8, 2)", eight().walker(8, 2), -1);
    }

    static void p05_walker_eachWhatHasItsOwn() {
        SamePassers x = Edges.rich();
        Edges.rowDue("walker 0", what -> x.walker(0, what), 0, 0, 1, 1, 6, 0, -1, 7);
        Edges.rowDue("walker 1", what -> x.walker(1, what), 2, 1, 8, 0, 5, 0, -1, 0);
        Edges.rowDue("walker 2", what -> x.walker(2, what), 3, 1, 4, 0, 3, 20, 1, 5);
    }

    static void p05_walker_aStraysWordIsTheOneTold() {
        SamePassers x = Edges.told(FOUR + "say ww at 9;walker aa stray lane 0 from 0 right pace 1 lag 0 on ww;"
            + "walker bb stray lane 0 from 0 right pace 1 lag 0;");
        Edges.rowDue("word", walker -> x.walker(walker, 6), 0, -1);
    }

    static void p05_walker_leavesAllAsItWas() {
        Edges.leavesAll("walker(0, 9)", x -> x.walker(0, 9), Edges.rich().walker(0, 9));
        Edges.leavesAll("walker(3, 9)", x -> x.walker(3, 9), -1);
    }

    // "PASSES: how many spans of tenths 0 to 600 there are in which he is SEEN"

    private static int passes(String frame, String rest) {
        return Edges.told("street 4 lanes 1 frame " + frame + " sharp 0;say ww at 598;walker aa " + rest).walker(0, 8);
    }

    static void p05_passes_ofOneNeverSeenAre0() {
        Edges.due("passes", passes("3 to 3", "pram lane 0 from 0 left pace 1 lag 0;"), 0);
    }

    static void p05_passes_ofOneWhoNeverLeavesAre1() {
        Edges.due("a dog", passes("0 to 3", "dog lane 0 from 0 left pace 1 lag 0;"), 1);
        Edges.due("one who waits", passes("2 to 2", "pram lane 0 from 2 left pace 1 lag 99 on ww;"), 1);
        Edges.due("without time round", passes("0 to 3", "plain lane 0 from 0 left pace 1 lag 0;round 0;"), 1);
    }

    static void p05_passes_aSpanOfTenth0AloneIsOne() {
        Edges.due("passes", passes("2 to 2", "pram lane 0 from 2 right pace 1 lag 0;"), 1);
    }

    static void p05_passes_aSpanOfTenth600AloneIsOne() {
        Edges.due("at 600", passes("2 to 2", "pram lane 0 from 0 right pace 1 lag 0 on ww;"), 1);
        Edges.due("at 601", passes("2 to 2", "pram lane 0 from 0 right pace 1 lag 1 on ww;"), 0);
    }

    static void p05_passes_aGapOfOneTenthMakesTwo() {
        Edges.due("round 1", passes("0 to 3", "plain lane 0 from 3 right pace 1 lag 0 on ww;round 1;"), 2);
        Edges.due("round 0", passes("0 to 3", "plain lane 0 from 3 right pace 1 lag 0 on ww;round 0;"), 1);
        Edges.due("round 2", passes("0 to 3", "plain lane 0 from 3 right pace 1 lag 0 on ww;round 2;"), 1);
    }

    static void p05_passes_sharpOrBlurredIsSeen() {
        SamePassers x = Edges.told("street 4 lanes 2 frame 1 to 1 sharp 1;walker aa pram lane 0 from 0 right pace 1 lag 0;"
            + "walker bb pram lane 1 from 0 right pace 1 lag 0;");
        Edges.rowDue("passes", walker -> x.walker(walker, 8), 1, 1);
    }

    // Promise 6: "The tenth of a word; NONE: others"

    static void p06_tenth_ofTheFirstAndTheLastWord() {
        SamePassers x = Edges.told(FOUR + "say wa at 600;say wb at 1;say wc at 2;say wd at 3;say we at 4;say wf at 0;");
        Edges.rowDue("tenth", x::tenth, 600, 1, 2, 3, 4, 0, -1);
    }

    static void p06_tenth_ofNoWordIsNone() {
        SamePassers x = Edges.rich();
        Edges.due("tenth(-1)", x.tenth(-1), -1);
        Edges.due("tenth(2)", x.tenth(2), -1);
        for (int far : Edges.FAR) {
            Edges.due("tenth(" + far + ")", x.tenth(far), -1);
        }
        Edges.due("tenth(0) of a new object", new SamePassers().tenth(0), -1);
    }

    static void p06_tenth_leavesAllAsItWas() {
        Edges.leavesAll("tenth(1)", x -> x.tenth(1), 40);
        Edges.leavesAll("tenth(2)", x -> x.tenth(2), -1);
    }

    // "a WALKER stands where he starts till his cue: the tenth of his word .., his lag and by how much he is late together"

    static void p13_where_heStandsTillHisCueAndATempo() {
        SamePassers x = Edges.told(FOUR + "say ww at 10;walker aa pram lane 0 from 0 right pace 3 lag 5 on ww;");
        whereDue(x, 0, 0, 15, 0, 17, 0, 18, 1, 20, 1, 21, 2);
        x.late(0, 4);
        whereDue(x, 0, 0, 21, 0, 22, 1, 24, 1, 25, 2);
    }

    static void p13_where_withoutAWordHisCueIsFrom0() {
        whereDue(alone("pram", "from 0 right pace 1 lag 0;"), 0, 0, 1, 1, 2, 2, 3, 3, 4, -1);
        whereDue(alone("pram", "from 0 right pace 1 lag 2;"), 0, 0, 2, 0, 3, 1);
    }

    static void p13_where_aWordAt0IsAsNone() {
        SamePassers x = Edges.told(FOUR + "say ww at 0;walker aa pram lane 0 from 0 right pace 1 lag 0 on ww;");
        whereDue(x, 0, 0, 1, 1);
    }

    static void p13_where_aCueAt599Or600() {
        SamePassers x = Edges.told(FOUR + "say ww at 599;walker aa pram lane 0 from 0 right pace 1 lag 0 on ww;");
        whereDue(x, 599, 0, 600, 1);
        x.late(0, 1);
        whereDue(x, 599, 0, 600, 0);
    }

    static void p13_where_theLatestCueOfAll() {
        SamePassers x = Edges.told(FOUR + "say ww at 600;walker aa plain lane 0 from 2 right pace 1 lag 99 on ww;");
        x.late(0, 99);
        whereDue(x, 0, 2, 300, 2, 600, 2);
    }

    static void p13_where_aStrayNeverHeedsWords() {
        SamePassers x = Edges.told(FOUR + "say ww at 600;walker aa stray lane 0 from 0 right pace 1 lag 3 on ww;");
        whereDue(x, 3, 0, 4, 1);
        x.late(0, 2);
        whereDue(x, 5, 0, 6, 1);
        SamePassers heeds = Edges.told(FOUR + "say ww at 600;walker aa plain lane 0 from 0 right pace 1 lag 3 on ww;");
        whereDue(heeds, 4, 0, 600, 0);
    }

    // "Each TEMPO behind it he is a cell further on his side"

    static void p13_where_tempo1AndTempo99() {
        whereDue(alone("pram", "from 0 right pace 9 lag 0;quick 1;"), 0, 0, 1, 1, 2, 2);
        whereDue(alone("pram", "from 0 right pace 9 lag 0;quick 100;"), 98, 0, 99, 1, 197, 1, 198, 2);
    }

    static void p13_where_toTheLeft() {
        whereDue(alone("pram", "from 3 left pace 3 lag 0;"), 2, 3, 3, 2, 5, 2, 6, 1, 9, 0, 11, 0, 12, -1);
    }

    // "Beyond the street's end he is gone: a plain, a stray one is behind the camera for round tenths, then at the other end's cell"

    static void p13_where_aPlainOneGoesRoundToTheRightAgainAndAgain() {
        whereDue(alone("plain", "from 1 right pace 3 lag 0;"),
            8, 3, 9, -1, 28, -1, 29, 0, 31, 0, 32, 1, 40, 3, 41, -1, 60, -1, 61, 0, 72, 3, 73, -1, 92, -1, 93, 0);
    }

    static void p13_where_aPlainOneGoesRoundToTheLeftAgainAndAgain() {
        whereDue(alone("plain", "from 2 left pace 3 lag 0;"),
            8, 0, 9, -1, 28, -1, 29, 3, 31, 3, 32, 2, 40, 0, 41, -1, 60, -1, 61, 3, 72, 0, 73, -1, 92, -1, 93, 3);
    }

    static void p13_where_aStrayOneGoesRoundToo() {
        whereDue(alone("stray", "from 1 right pace 3 lag 0;"), 8, 3, 9, -1, 28, -1, 29, 0, 40, 3, 41, -1, 61, 0);
    }

    static void p13_where_withoutTimeRoundHeIsAtTheOtherEndAtOnce() {
        whereDue(alone("plain", "from 3 right pace 2 lag 0;round 0;"), 0, 3, 1, 3, 2, 0, 3, 0, 4, 1, 9, 3, 10, 0);
        whereDue(alone("stray", "from 0 left pace 2 lag 0;round 0;"), 0, 0, 1, 0, 2, 3, 3, 3, 4, 2, 9, 0, 10, 3);
    }

    static void p13_where_round1And99() {
        whereDue(alone("plain", "from 3 right pace 2 lag 0;round 1;"), 1, 3, 2, -1, 3, 0, 10, 3, 11, -1, 12, 0);
        whereDue(alone("plain", "from 3 right pace 2 lag 0;round 99;"), 1, 3, 2, -1, 100, -1, 101, 0, 108, 3, 109, -1, 207, -1, 208, 0);
    }

    // "a pram stays gone"

    static void p13_where_aPramStaysGone() {
        whereDue(alone("pram", "from 3 right pace 1 lag 0;"), 0, 3, 1, -1, 21, -1, 600, -1);
        whereDue(alone("pram", "from 0 left pace 1 lag 0;round 0;"), 0, 0, 1, -1, 2, -1, 600, -1);
    }

    // "a dog is then at the last cell again, and goes the other way, a cell each TEMPO, again and again"

    static void p13_where_aDogTurnsAtTheRightEndAndAtTheLeftOne() {
        whereDue(alone("dog", "from 1 right pace 3 lag 0;"),
            6, 3, 8, 3, 9, 3, 11, 3, 12, 2, 15, 1, 18, 0, 20, 0, 21, 0, 23, 0, 24, 1, 27, 2, 30, 3, 33, 3, 36, 2, 42, 0, 45, 0, 48, 1);
    }

    static void p13_where_aDogTurnsAtTheLeftEndAndAtTheRightOne() {
        whereDue(alone("dog", "from 2 left pace 3 lag 0;"),
            6, 0, 8, 0, 9, 0, 11, 0, 12, 1, 15, 2, 18, 3, 21, 3, 23, 3, 24, 2, 30, 0, 33, 0, 36, 1, 42, 3, 45, 3, 48, 2);
    }

    static void p13_where_aDogAtTheEndFromTheStart() {
        whereDue(alone("dog", "from 3 right pace 1 lag 0;"), 0, 3, 1, 3, 2, 2, 4, 0, 5, 0, 6, 1);
        whereDue(alone("dog", "from 0 left pace 1 lag 0;"), 0, 0, 1, 0, 2, 1, 4, 3, 5, 3, 6, 2);
    }

    static void p13_where_aTurnedDogGoesFromHisStartTheOtherWay() {
        SamePassers x = alone("dog", "from 1 right pace 1 lag 0;");
        x.turn(0);
        whereDue(x, 0, 1, 1, 0, 2, 0, 3, 1, 5, 3, 6, 3, 7, 2);
    }

    // Promise 13: "WHERE; NONE: others, gone"; "at a tenth (0 to 600)"

    static void p13_where_tenth0And600_minus1And601AreNone() {
        SamePassers x = alone("dog", "from 1 right pace 1 lag 99;");
        Edges.due("where(0, 0)", x.where(0, 0), 1);
        // 501 cells on: 502 of a way of 8.
        Edges.due("where(0, 600)", x.where(0, 600), 1);
        Edges.due("where(0, -1)", x.where(0, -1), -1);
        Edges.due("where(0, 601)", x.where(0, 601), -1);
        for (int far : new int[] {Integer.MIN_VALUE, Integer.MAX_VALUE, 1000, -1000}) {
            Edges.due("where(0, " + far + ")", x.where(0, far), -1);
        }
    }

    static void p13_where_ofNobodyIsNone() {
        SamePassers x = Edges.rich();
        Edges.due("where(-1, 0)", x.where(-1, 0), -1);
        Edges.due("where(3, 0)", x.where(3, 0), -1);
        for (int far : Edges.FAR) {
            Edges.due("where(" + far + ", 0)", x.where(far, 0), -1);
        }
        Edges.due("where(0, 0) of a new object", new SamePassers().where(0, 0), -1);
    }

    static void p13_where_leavesAllAsItWas() {
        Edges.leavesAll("where(0, 600)", x -> x.where(0, 600), Edges.rich().where(0, 600));
        Edges.leavesAll("where(0, 601)", x -> x.where(0, 601), -1);
        Edges.leavesAll("where(3, 0)", x -> x.where(3, 0), -1);
    }

    static void p13_where_onTheLongestStreet() {
        SamePassers x = Edges.told("street 40 lanes 1 frame 0 to 39 sharp 1;walker aa plain lane 0 from 0 right pace 9 lag 0;round 99;");
        whereDue(x, 0, 0, 359, 39, 360, -1, 458, -1, 459, 0, 600, 15);
    }

    // "SEEN: 2 sharp, if he is in the frame and his lane is less than sharp, 1 blurred, in the frame else, 0 not"

    static void p14_seen_atTheEdgesOfTheFrame() {
        SamePassers x = Edges.told("street 9 lanes 2 frame 2 to 4 sharp 1;walker aa pram lane 0 from 0 right pace 1 lag 0;"
            + "walker bb pram lane 1 from 0 right pace 1 lag 0;");
        Edges.rowDue("seen, sharp", tenth -> x.seen(0, tenth), 0, 0, 2, 2, 2, 0, 0, 0, 0, 0);
        Edges.rowDue("seen, blurred", tenth -> x.seen(1, tenth), 0, 0, 1, 1, 1, 0, 0, 0, 0, 0);
    }

    static void p14_seen_byALaneLessThanSharp() {
        for (int sharp = 0; sharp <= 4; sharp++) {
            StringBuilder text = new StringBuilder("street 4 lanes 4 frame 0 to 3 sharp " + sharp + ";");
            for (int lane = 0; lane < 4; lane++) {
                text.append("walker p").append((char) ('a' + lane)).append(" dog lane ").append(lane).append(" from 0 left pace 1 lag 0;");
            }
            SamePassers x = Edges.told(text.toString());
            for (int lane = 0; lane < 4; lane++) {
                Edges.due("seen of lane " + lane + " by sharp " + sharp, x.seen(lane, 0), lane < sharp ? 2 : 1);
            }
        }
    }

    static void p14_seen_ofOneGoneIs0() {
        SamePassers x = alone("pram", "from 0 left pace 1 lag 0;");
        Edges.rowDue("seen", tenth -> x.seen(0, tenth), 2, 0, 0);
    }

    static void p14_seen_tenth0And600_minus1And601AreNone() {
        SamePassers x = alone("dog", "from 1 right pace 1 lag 0;");
        Edges.due("seen(0, 0)", x.seen(0, 0), 2);
        Edges.due("seen(0, 600)", x.seen(0, 600), 2);
        Edges.due("seen(0, -1)", x.seen(0, -1), -1);
        Edges.due("seen(0, 601)", x.seen(0, 601), -1);
        Edges.due("seen(0, MIN)", x.seen(0, Integer.MIN_VALUE), -1);
        Edges.due("seen(0, MAX)", x.seen(0, Integer.MAX_VALUE), -1);
    }

    static void p14_seen_ofNobodyIsNone() {
        SamePassers x = Edges.rich();
        Edges.due("seen(-1, 0)", x.seen(-1, 0), -1);
        Edges.due("seen(3, 0)", x.seen(3, 0), -1);
        for (int far : Edges.FAR) {
            Edges.due("seen(" + far + ", 0)", x.seen(far, 0), -1);
        }
        Edges.due("seen(0, 0) of a new object", new SamePassers().seen(0, 0), -1);
    }

    static void p14_seen_leavesAllAsItWas() {
        Edges.leavesAll("seen(0, 600)", x -> x.seen(0, 600), Edges.rich().seen(0, 600));
        Edges.leavesAll("seen(0, 601)", x -> x.seen(0, 601), -1);
        Edges.leavesAll("seen(3, 0)", x -> x.seen(3, 0), -1);
    }

    // "BUMP: two of one lane at one cell"; promise 15: "FIRST; NONE: others, the same, never"

    private static SamePassers two(String one, String other) {
        return Edges.told("street 9 lanes 2 frame 0 to 8 sharp 1;say go at 599;say end at 600;walker aa pram lane " + one
            + ";walker bb pram lane " + other + ";");
    }

    private static void firstDue(SamePassers x, int want) {
        Edges.due("first(0, 1)", x.first(0, 1), want);
        Edges.due("first(1, 0)", x.first(1, 0), want);
        Edges.due("good", x.good(), want == -1);
    }

    static void p15_first_atTenth0() {
        firstDue(two("0 from 3 right pace 1 lag 0", "0 from 3 left pace 1 lag 0"), 0);
    }

    static void p15_first_atTenth600_notAt601() {
        firstDue(two("0 from 3 right pace 1 lag 0 on go", "0 from 4 left pace 1 lag 0 on end"), 600);
        firstDue(two("0 from 3 right pace 1 lag 1 on go", "0 from 4 left pace 1 lag 1 on end"), -1);
    }

    static void p15_first_ofTwoThatMeetInACell() {
        firstDue(two("0 from 0 right pace 1 lag 0", "0 from 8 left pace 1 lag 0"), 4);
    }

    static void p15_first_ofTwoThatChangeCellsIsNever() {
        firstDue(two("0 from 0 right pace 1 lag 0", "0 from 7 left pace 1 lag 0"), -1);
    }

    static void p15_first_ofTwoLanesIsNever() {
        firstDue(two("0 from 3 right pace 1 lag 0", "1 from 3 right pace 1 lag 0"), -1);
    }

    static void p15_first_ofTwoGoneIsNever() {
        firstDue(two("0 from 8 right pace 1 lag 0", "0 from 0 left pace 1 lag 0"), -1);
    }

    static void p15_first_isTheFirstOfMany() {
        SamePassers x = Edges.told("street 4 lanes 1 frame 0 to 3 sharp 1;walker aa dog lane 0 from 0 right pace 1 lag 0;"
            + "walker bb dog lane 0 from 2 right pace 9 lag 99;");
        Edges.due("first", x.first(0, 1), 2);
    }

    static void p15_first_ofTheSameIsNone() {
        SamePassers x = Edges.rich();
        Edges.due("first(0, 0)", x.first(0, 0), -1);
        Edges.due("first(2, 2)", x.first(2, 2), -1);
    }

    static void p15_first_ofNobodyIsNone() {
        SamePassers x = Edges.rich();
        for (int other : new int[] {-1, 3, Integer.MIN_VALUE, Integer.MAX_VALUE}) {
            Edges.due("first(0, " + other + ")", x.first(0, other), -1);
            Edges.due("first(" + other + ", 0)", x.first(other, 0), -1);
            Edges.due("first of both", x.first(other, other), -1);
        }
        Edges.due("first of a new object", new SamePassers().first(0, 1), -1);
    }

    static void p15_first_leavesAllAsItWas() {
        Edges.leavesAll("first(1, 2)", x -> x.first(1, 2), Edges.rich().first(1, 2));
        Edges.leavesAll("first(1, 1)", x -> x.first(1, 1), -1);
        Edges.leavesAll("first(1, 3)", x -> x.first(1, 3), -1);
    }

    // "A take is GOOD if on their words all who must be at a cell are there, and no two BUMP in tenths 0 to 600"

    static void p16_good_withNobodyAndNoMusts() {
        Edges.due("good", new SamePassers().good(), true);
        Edges.due("good", alone("pram", "from 0 right pace 1 lag 0;").good(), true);
    }

    static void p16_good_oneMustOfManyMissedIsNot() {
        String text = "street 9 lanes 1 frame 0 to 8 sharp 1;say wa at 0;say wb at 600;walker aa dog lane 0 from 4 right pace 9 lag 99 on wb;";
        Edges.due("both held", Edges.told(text + "must aa wa 4;must aa wb 4;").good(), true);
        Edges.due("the first missed", Edges.told(text + "must aa wa 3;must aa wb 4;").good(), false);
        Edges.due("the last missed", Edges.told(text + "must aa wa 4;must aa wb 5;").good(), false);
    }

    static void p16_good_ofOneGoneOnHisWordIsNot() {
        SamePassers x = Edges.told(FOUR + "say ww at 1;walker aa pram lane 0 from 3 right pace 1 lag 0;must aa ww 3;");
        Edges.due("good", x.good(), false);
        x.late(0, 1);
        Edges.due("good", x.good(), true);
    }

    static void p16_good_aBumpOfTheLastTwoIsNot() {
        SamePassers x = eight();
        Edges.due("all eight apart", x.good(), true);
        x.start(7, 6);
        Edges.due("the last two at one cell", x.good(), false);
    }

    static void p16_good_leavesAllAsItWas() {
        Edges.leavesAll("good", x -> Edges.asLong(x.good()), 0);
    }

    // "OFF of a must: how many cells he is away on that word (100 if gone)"; promise 17: "NONE: others"

    private static SamePassers off(int from, int must) {
        return Edges.told("street 40 lanes 1 frame 0 to 39 sharp 1;say ww at 600;walker aa dog lane 0 from " + from
            + " right pace 1 lag 0 on ww;must aa ww " + must + ";");
    }

    static void p17_off_0WhereHeMustBe() {
        Edges.due("off", off(7, 7).off(0), 0);
    }

    static void p17_off_toBothSides_39IsTheMost() {
        Edges.due("one to the right", off(8, 7).off(0), 1);
        Edges.due("one to the left", off(6, 7).off(0), 1);
        Edges.due("39 to the right", off(39, 0).off(0), 39);
        Edges.due("39 to the left", off(0, 39).off(0), 39);
    }

    static void p17_off_100IfGone() {
        SamePassers x = Edges.told(FOUR + "say ww at 1;walker aa pram lane 0 from 3 right pace 1 lag 0;must aa ww 3;");
        Edges.due("off", x.off(0), 100);
    }

    static void p17_off_ofNoMustIsNone() {
        SamePassers x = Edges.rich();
        Edges.due("off(-1)", x.off(-1), -1);
        Edges.due("off(2)", x.off(2), -1);
        for (int far : Edges.FAR) {
            Edges.due("off(" + far + ")", x.off(far), -1);
        }
        Edges.due("off(0) of a new object", new SamePassers().off(0), -1);
    }

    static void p17_off_ofTheEighthMust() {
        StringBuilder text = new StringBuilder("street 9 lanes 1 frame 0 to 8 sharp 1;say ww at 0;");
        for (int i = 0; i < 8; i++) {
            text.append("walker p").append((char) ('a' + i)).append(" pram lane 0 from ").append(i).append(" right pace 1 lag 0;");
            text.append("must p").append((char) ('a' + i)).append(" ww 0;");
        }
        Edges.rowDue("off", Edges.told(text.toString())::off, 0, 1, 2, 3, 4, 5, 6, 7, -1);
    }

    static void p17_off_leavesAllAsItWas() {
        Edges.leavesAll("off(1)", x -> x.off(1), Edges.rich().off(1));
        Edges.leavesAll("off(2)", x -> x.off(2), -1);
    }

    // Promise 18: "In how many takes OFF by so many cells (1 to 100); NONE: others, not within 60"

    /** One who is gone on his word from a take on, and there before. */
    private static SamePassers goneFrom(int take) {
        return Edges.told(FOUR + "say ww at 5;walker aa pram lane 0 from 0 right pace 1 lag 0;must aa ww 0;quick 10 - 9 * (" + (take - 1) + " < nth);");
    }

    static void p18_until_cells1And100_0And101AreNone() {
        SamePassers x = goneFrom(3);
        Edges.due("until(0, 1)", x.until(0, 1), 3);
        Edges.due("until(0, 100)", x.until(0, 100), 3);
        Edges.due("until(0, 0)", x.until(0, 0), -1);
        Edges.due("until(0, 101)", x.until(0, 101), -1);
        for (int far : new int[] {-1, -1000, 1000, Integer.MIN_VALUE, Integer.MAX_VALUE}) {
            Edges.due("until(0, " + far + ")", x.until(0, far), -1);
        }
    }

    static void p18_until_ofNoMustIsNone() {
        SamePassers x = goneFrom(3);
        Edges.due("until(-1, 1)", x.until(-1, 1), -1);
        Edges.due("until(1, 1)", x.until(1, 1), -1);
        for (int far : Edges.FAR) {
            Edges.due("until(" + far + ", 1)", x.until(far, 1), -1);
        }
        Edges.due("until(0, 1) of a new object", new SamePassers().until(0, 1), -1);
    }

    static void p18_until_0InThisTake() {
        SamePassers x = goneFrom(3);
        for (int take = 0; take <= 5; take++) {
            Edges.due("until in take " + take, x.until(0, 100), Math.max(0, 3 - take));
            x.take();
        }
    }

    static void p18_until_60IsTheLast_61IsNotWithin() {
        Edges.due("from take 60 on", goneFrom(60).until(0, 100), 60);
        Edges.due("from take 61 on", goneFrom(61).until(0, 100), -1);
    }

    static void p18_until_countsFromNowOn() {
        SamePassers x = goneFrom(61);
        x.take();
        Edges.due("from take 1", x.until(0, 100), 60);
        for (int take = 2; take <= 60; take++) {
            x.take();
        }
        Edges.due("from take 60", x.until(0, 100), 1);
    }

    static void p18_until_offNoLessThanSoMany() {
        // On the word at 80 he is at cell 80 / (10 + nth): 8, 7, 6, 6, 5, 5, 5, 4 ..
        SamePassers x = Edges.told("street 9 lanes 1 frame 0 to 8 sharp 1;say ww at 80;"
            + "walker aa pram lane 0 from 0 right pace 1 lag 0;must aa ww 8;quick 10 + nth;");
        int[] due = {1, 2, 4, 7, 11, 17, 31, -1};
        for (int cells = 1; cells <= due.length; cells++) {
            Edges.due("until(0, " + cells + ")", x.until(0, cells), due[cells - 1]);
        }
    }

    static void p18_until_lateIsForThisTakeAlone() {
        SamePassers x = Edges.told("street 9 lanes 1 frame 0 to 8 sharp 1;say ww at 5;walker aa pram lane 0 from 0 right pace 1 lag 0;must aa ww 3;");
        Edges.due("not late he is off by 2", x.until(0, 2), 0);
        x.late(0, 2);
        Edges.due("late he is there, but not in the next take", x.until(0, 2), 1);
        x.late(0, 5);
        Edges.due("later still he is off by 3", x.until(0, 3), 0);
        Edges.due("never by 4", x.until(0, 4), -1);
    }

    static void p18_until_leavesAllAsItWas() {
        Edges.leavesAll("until(0, 1)", x -> x.until(0, 1), 0);
        Edges.leavesAll("until(1, 100)", x -> x.until(1, 100), -1);
        Edges.leavesAll("until(2, 1)", x -> x.until(2, 1), -1);
    }

    // "UNKNOWN: the chance, in millionths, cut once, that nobody is KNOWN, each for himself"

    private static int unknown(int walkers, String odd) {
        StringBuilder text = new StringBuilder("street 4 lanes 1 frame 1 to 2 sharp 1;odd " + odd + ";");
        for (int i = 0; i < walkers; i++) {
            text.append("walker p").append((char) ('a' + i)).append(" dog lane 0 from 0 right pace 1 lag ").append(i).append(';');
        }
        return Edges.told(text.toString()).unknown();
    }

    static void p19_unknown_ofNobodyIsAMillion() {
        Edges.due("unknown", new SamePassers().unknown(), 1000000);
        Edges.due("unknown", unknown(0, "5"), 1000000);
    }

    static void p19_unknown_ofThoseNeverKnownIsAMillion() {
        Edges.due("unknown", unknown(8, "0"), 1000000);
    }

    static void p19_unknown_ofOneKnownForSureIs0() {
        Edges.due("unknown", unknown(1, "10"), 0);
        Edges.due("unknown", unknown(8, "10"), 0);
    }

    static void p19_unknown_ofOne() {
        Edges.due("by 1", unknown(1, "1"), 900000);
        Edges.due("by 9", unknown(1, "9"), 100000);
    }

    static void p19_unknown_isCutOnce() {
        // 0.9 to the eighth is 0.43046721; cut at each step it would be 430466.
        Edges.due("unknown", unknown(8, "1"), 430467);
        // 0.1 to the sixth is one millionth, to the seventh less.
        Edges.due("six", unknown(6, "9"), 1);
        Edges.due("seven", unknown(7, "9"), 0);
    }

    static void p19_unknown_leavesAllAsItWas() {
        Edges.leavesAll("unknown", x -> x.unknown(), Edges.rich().unknown());
    }

    // Promise 24: "Cells of a lane where somebody is at a tenth, as bits; NONE: others"

    static void p24_row_cell0AndCell39() {
        SamePassers x = Edges.told("street 40 lanes 4 frame 0 to 39 sharp 1;walker aa pram lane 3 from 39 right pace 1 lag 0;"
            + "walker bb pram lane 3 from 0 left pace 1 lag 0;walker cc pram lane 0 from 31 left pace 1 lag 0;walker dd pram lane 0 from 32 left pace 1 lag 0;");
        Edges.due("row(3, 0)", x.row(3, 0), 1L << 39 | 1);
        Edges.due("row(3, 1), all gone", x.row(3, 1), 0);
        Edges.due("row(0, 0)", x.row(0, 0), 1L << 31 | 1L << 32);
        Edges.due("row(1, 0), nobody's lane", x.row(1, 0), 0);
    }

    static void p24_row_twoAtOneCellAreOneBit() {
        Edges.due("row", two("0 from 3 right pace 1 lag 0", "0 from 3 left pace 1 lag 0").row(0, 0), 8);
    }

    static void p24_row_besideTheLanesIsNone() {
        SamePassers x = Edges.rich();
        Edges.due("row(1, 0)", x.row(1, 0), 1 << 8 | 1 << 4);
        Edges.due("row(-1, 0)", x.row(-1, 0), -1);
        Edges.due("row(2, 0)", x.row(2, 0), -1);
        for (int far : Edges.FAR) {
            Edges.due("row(" + far + ", 0)", x.row(far, 0), -1);
        }
    }

    static void p24_row_tenth0And600_minus1And601AreNone() {
        SamePassers x = two("0 from 3 right pace 1 lag 99 on end", "1 from 4 left pace 1 lag 99 on end");
        Edges.due("row(0, 0)", x.row(0, 0), 8);
        Edges.due("row(0, 600)", x.row(0, 600), 8);
        Edges.due("row(0, -1)", x.row(0, -1), -1);
        Edges.due("row(0, 601)", x.row(0, 601), -1);
        Edges.due("row(0, MIN)", x.row(0, Integer.MIN_VALUE), -1);
        Edges.due("row(0, MAX)", x.row(0, Integer.MAX_VALUE), -1);
    }

    static void p24_row_leavesAllAsItWas() {
        Edges.leavesAll("row(1, 600)", x -> x.row(1, 600), Edges.rich().row(1, 600));
        Edges.leavesAll("row(1, 601)", x -> x.row(1, 601), -1);
        Edges.leavesAll("row(2, 0)", x -> x.row(2, 0), -1);
    }

    // "WRONG: WALKERS that are sharp on no word"

    static void p25_wrong_ofNobodyIs0() {
        Edges.due("wrong", new SamePassers().wrong(), 0);
        Edges.due("wrong", Edges.told(FOUR + "say ww at 0;").wrong(), 0);
    }

    static void p25_wrong_withoutWordsAreAll() {
        Edges.due("wrong", alone("dog", "from 0 left pace 1 lag 0;").wrong(), 1);
    }

    static void p25_wrong_allEightOrNone() {
        Edges.due("all sharp on the word", eight().wrong(), 0);
        StringBuilder text = new StringBuilder("street 9 lanes 1 frame 0 to 8 sharp 0;say ww at 0;");
        for (int i = 0; i < 8; i++) {
            text.append("walker p").append((char) ('a' + i)).append(" dog lane 0 from ").append(i).append(" right pace 1 lag 0;");
        }
        Edges.due("all blurred", Edges.told(text.toString()).wrong(), 255);
    }

    static void p25_wrong_sharpOnOneWordIsEnough() {
        SamePassers x = Edges.told("street 9 lanes 2 frame 4 to 4 sharp 1;say wa at 0;say wb at 4;say wc at 8;"
            + "walker aa pram lane 0 from 0 right pace 1 lag 0;walker bb pram lane 0 from 4 right pace 1 lag 0;"
            + "walker cc pram lane 0 from 8 left pace 2 lag 0;walker dd pram lane 1 from 4 left pace 2 lag 0;"
            + "walker ee pram lane 0 from 5 left pace 2 lag 0;");
        // Sharp: aa on wb, bb on wa, cc on wc; dd is blurred on wa, ee in the frame at 2 and 3 alone.
        Edges.due("wrong", x.wrong(), 24);
    }

    static void p25_wrong_leavesAllAsItWas() {
        Edges.leavesAll("wrong", x -> x.wrong(), Edges.rich().wrong());
    }

    // Promise 31: "WHOSE, as bits; NONE: others"

    static void p31_whose_ofTheFirstAndTheLastWalker() {
        SamePassers x = eight();
        Edges.rowDue("whose", cell -> x.whose(cell, 0, 0), 1, 2, 4, 8, 16, 32, 64, 128, 0, -1);
        x.start(7, 0);
        Edges.due("two at one cell", x.whose(0, 0, 0), 129);
    }

    static void p31_whose_besideTheStreetIsNone() {
        SamePassers x = Edges.rich();
        Edges.due("whose(0, 0, 0)", x.whose(0, 0, 0), 0);
        Edges.due("whose(9, 0, 0)", x.whose(9, 0, 0), 0);
        Edges.due("whose(-1, 0, 0)", x.whose(-1, 0, 0), -1);
        Edges.due("whose(10, 0, 0)", x.whose(10, 0, 0), -1);
        for (int far : Edges.FAR) {
            Edges.due("whose(" + far + ", 0, 0)", x.whose(far, 0, 0), -1);
        }
    }

    static void p31_whose_besideTheLanesIsNone() {
        SamePassers x = Edges.rich();
        Edges.due("whose(8, 0, 0)", x.whose(8, 0, 0), 0);
        Edges.due("whose(8, 1, 0)", x.whose(8, 1, 0), 2);
        Edges.due("whose(8, -1, 0)", x.whose(8, -1, 0), -1);
        Edges.due("whose(8, 2, 0)", x.whose(8, 2, 0), -1);
        for (int far : Edges.FAR) {
            Edges.due("whose(8, " + far + ", 0)", x.whose(8, far, 0), -1);
        }
    }

    static void p31_whose_tenth0And600_minus1And601AreNone() {
        SamePassers x = two("0 from 3 right pace 1 lag 99 on end", "1 from 4 left pace 1 lag 99 on end");
        Edges.due("whose(3, 0, 0)", x.whose(3, 0, 0), 1);
        Edges.due("whose(3, 0, 600)", x.whose(3, 0, 600), 1);
        Edges.due("whose(3, 0, -1)", x.whose(3, 0, -1), -1);
        Edges.due("whose(3, 0, 601)", x.whose(3, 0, 601), -1);
        Edges.due("whose(3, 0, MIN)", x.whose(3, 0, Integer.MIN_VALUE), -1);
        Edges.due("whose(3, 0, MAX)", x.whose(3, 0, Integer.MAX_VALUE), -1);
    }

    static void p31_whose_leavesAllAsItWas() {
        Edges.leavesAll("whose(8, 1, 0)", x -> x.whose(8, 1, 0), 2);
        Edges.leavesAll("whose(10, 1, 0)", x -> x.whose(10, 1, 0), -1);
        Edges.leavesAll("whose(8, 2, 0)", x -> x.whose(8, 2, 0), -1);
        Edges.leavesAll("whose(8, 1, 601)", x -> x.whose(8, 1, 601), -1);
    }

    static void p31_whose_nobodyIsWhereOneIsGone() {
        SamePassers x = alone("pram", "from 0 left pace 1 lag 0;");
        Edges.due("at 0", x.whose(0, 0, 0), 1);
        for (int cell = 0; cell < 4; cell++) {
            Edges.due("gone", x.whose(cell, 0, 1), 0);
        }
    }
}
