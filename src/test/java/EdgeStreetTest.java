/** Edges of promise 3: each NUMBER, NAME and line of a STREET, its FAULTS, and what a new STREET begins anew. */
public final class EdgeStreetTest {
    private static final String GROUND = "street 9 lanes 2 frame 0 to 5 sharp 1;";
    private static final String BASE = GROUND + "say ww at 5;walker aa plain lane 0 from 0 left pace 1 lag 0;";
    private static final String WALKER = BASE + "walker bb ";
    private static final String[] RESERVED = {"street", "lanes", "frame", "to", "sharp", "say", "at", "walker", "lane",
        "from", "pace", "lag", "on", "must", "round", "quick", "odd", "start", "turn", "late", "take", "left", "right",
        "plain", "pram", "dog", "stray", "not", "and", "or"};

    public static void main(String[] args) {
        Edges.run(EdgeStreetTest.class);
    }

    // "street N lanes N frame N to N sharp N ;   first"

    static void p03_street_anotherLineFirstIsFault1() {
        for (String line : new String[] {"say ww at 5;", "walker aa", "must", "round 5;", "quick 1;", "odd 1;", "take;", ";", "5"}) {
            Edges.fault("", line, 1);
        }
        Edges.fault(" \n", "say ww at 5;", 1);
    }

    static void p03_street_toldAgainIsFault1() {
        Edges.fault(GROUND, GROUND, 1);
        Edges.fault(BASE, "street", 1);
        Edges.fault(BASE + "round 1;", "street 9 lanes 2", 1);
    }

    static void p03_street_aloneIsOne() {
        SamePassers x = Edges.told(GROUND);
        Edges.rowDue("count", x::count, 9, 2, 0, 0, 0, 0, 0, 0, 0, 0, 0, 0);
    }

    static void p03_street_eachTokenHasItsPlaceInTheFirstLine() {
        String[] tokens = {"street", "9", "lanes", "2", "frame", "0", "to", "5", "sharp", "1", ";"};
        StringBuilder before = new StringBuilder();
        for (String token : tokens) {
            Edges.fault(before.toString(), "", 1);
            Edges.fault(before.toString(), "xx", 1);
            Edges.fault(before.toString(), token.matches("[0-9]+") ? ";" : "7", 1);
            before.append(token).append(' ');
        }
        Edges.well(before.toString());
    }

    // "cells 4 to 40, from 0"

    static void p03_cells_3IsFault4_4IsTheLeast() {
        Edges.fault("street ", "3 lanes 1 frame 0 to 2 sharp 0;", 4);
        Edges.fault("street ", "0", 4);
        SamePassers x = Edges.told("street 4 lanes 1 frame 0 to 3 sharp 0;");
        Edges.due("cells", x.count(0), 4);
        Edges.due("whose of the last cell", x.whose(3, 0, 0), 0);
        Edges.due("whose beyond", x.whose(4, 0, 0), -1);
    }

    static void p03_cells_40IsTheGreatest_41IsFault4() {
        Edges.fault("street ", "41 lanes 1 frame 0 to 39 sharp 0;", 4);
        SamePassers x = Edges.told("street 40 lanes 1 frame 0 to 39 sharp 0;");
        Edges.due("cells", x.count(0), 40);
        Edges.due("whose of the last cell", x.whose(39, 0, 0), 0);
        Edges.due("whose beyond", x.whose(40, 0, 0), -1);
    }

    // "lanes 1 to 4, from 0"

    static void p03_lanes_0IsFault4_1IsTheLeast() {
        Edges.fault("street 9 lanes ", "0 frame 0 to 5 sharp 0;", 4);
        SamePassers x = Edges.told("street 9 lanes 1 frame 0 to 5 sharp 0;");
        Edges.due("lanes", x.count(1), 1);
        Edges.due("row of the last lane", x.row(0, 0), 0);
        Edges.due("row beyond", x.row(1, 0), -1);
    }

    static void p03_lanes_4IsTheGreatest_5IsFault4() {
        Edges.fault("street 9 lanes ", "5 frame 0 to 5 sharp 0;", 4);
        SamePassers x = Edges.told("street 9 lanes 4 frame 0 to 5 sharp 0;");
        Edges.due("lanes", x.count(1), 4);
        Edges.due("row of the last lane", x.row(3, 0), 0);
        Edges.due("row beyond", x.row(4, 0), -1);
    }

    // "the frame from a cell to another one, no less"

    private static SamePassers framed(int from, int to) {
        return Edges.told("street 9 lanes 1 frame " + from + " to " + to
            + " sharp 1;walker aa pram lane 0 from 0 right pace 1 lag 0;");
    }

    static void p03_frame_fromCell0IsTheLeast() {
        Edges.rowDue("seen", tenth -> framed(0, 2).seen(0, tenth), 2, 2, 2, 0);
    }

    static void p03_frame_fromTheLastCellIsTheGreatest_theNextIsFault4() {
        Edges.rowDue("seen", tenth -> framed(8, 8).seen(0, tenth), 0, 0, 0, 0, 0, 0, 0, 0, 2, 0);
        Edges.fault("street 9 lanes 1 frame ", "9 to 9 sharp 1;", 4);
    }

    static void p03_frame_toTheSameCellIsOneCell() {
        Edges.rowDue("seen", tenth -> framed(4, 4).seen(0, tenth), 0, 0, 0, 0, 2, 0, 0, 0, 0);
        Edges.rowDue("seen", tenth -> framed(0, 0).seen(0, tenth), 2, 0);
    }

    static void p03_frame_toALesserCellIsFault4() {
        Edges.fault("street 9 lanes 1 frame 5 to ", "4 sharp 1;", 4);
        Edges.fault("street 9 lanes 1 frame 8 to ", "0 sharp 1;", 4);
        Edges.fault("street 9 lanes 1 frame 1 to ", "0 sharp 1;", 4);
    }

    static void p03_frame_toTheLastCellIsTheGreatest_theNextIsFault4() {
        Edges.rowDue("seen", tenth -> framed(6, 8).seen(0, tenth), 0, 0, 0, 0, 0, 0, 2, 2, 2, 0);
        Edges.fault("street 9 lanes 1 frame 0 to ", "9 sharp 1;", 4);
    }

    // "sharp 0 to lanes"

    private static SamePassers sharp(int sharp) {
        return Edges.told("street 9 lanes 3 frame 0 to 8 sharp " + sharp + ";walker aa pram lane 0 from 0 right pace 1 lag 0;"
            + "walker bb pram lane 1 from 0 right pace 1 lag 0;walker cc pram lane 2 from 0 right pace 1 lag 0;");
    }

    static void p03_sharp_0IsTheLeast_nobodyIsSharp() {
        Edges.rowDue("seen", walker -> sharp(0).seen(walker, 0), 1, 1, 1);
    }

    static void p03_sharp_asManyAsLanesIsTheGreatest_allAreSharp() {
        Edges.rowDue("seen", walker -> sharp(3).seen(walker, 0), 2, 2, 2);
        Edges.rowDue("seen with one less", walker -> sharp(2).seen(walker, 0), 2, 2, 1);
    }

    static void p03_sharp_beyondTheLanesIsFault4() {
        Edges.fault("street 9 lanes 3 frame 0 to 8 sharp ", "4;", 4);
        Edges.fault("street 9 lanes 1 frame 0 to 8 sharp ", "2;", 4);
        Edges.fault("street 9 lanes 4 frame 0 to 8 sharp ", "5;", 4);
    }

    // "then any number of say, walker, must, round, quick, odd" in any order

    static void p03_lines_mayStandInAnyOrder() {
        SamePassers x = Edges.told(GROUND + "odd 1;quick 2;round 3;walker aa dog lane 0 from 0 left pace 1 lag 0;"
            + "say ww at 5;must aa ww 0;walker bb dog lane 0 from 0 left pace 1 lag 0 on ww;say vv at 5;must bb vv 0;");
        Edges.rowDue("count", x::count, 9, 2, 2, 2, 2);
    }

    static void p03_lines_ofTakesOrNoneAreFault1() {
        for (String line : new String[] {"start aa 5;", "turn aa;", "late aa 5;", "take;", ";", "aa", "7", "plain", "lane 0", "("}) {
            Edges.fault(BASE, line, 1);
        }
    }

    static void p03_lines_needTheirLastSign() {
        Edges.fault(GROUND + "say ww at 5 ", "say vv at 6;", 1);
        Edges.fault(GROUND + "say ww at 5", "", 1);
        Edges.fault(BASE + "must aa ww 0 ", "0;", 1);
        Edges.fault(BASE + "round 5 ", "round", 1);
        Edges.fault(BASE + "quick 5 ", "odd", 1);
        Edges.fault(WALKER + "dog lane 0 from 0 left pace 1 lag 0", "", 1);
    }

    // "say: a word, at a tenth (of a second) 0 to 600"

    static void p03_say_at0IsTheLeast() {
        Edges.due("tenth", Edges.told(GROUND + "say ww at 0;").tenth(0), 0);
    }

    static void p03_say_at600IsTheGreatest_601IsFault4() {
        Edges.due("tenth", Edges.told(GROUND + "say ww at 600;").tenth(0), 600);
        Edges.fault(GROUND + "say ww at ", "601;", 4);
        Edges.fault(GROUND + "say ww at ", "9999;", 4);
    }

    // "6 at most, numbered as told"; "the words say of a seventh"

    private static String words(int many) {
        StringBuilder text = new StringBuilder(GROUND);
        for (int i = 0; i < many; i++) {
            text.append("say w").append((char) ('a' + i)).append(" at ").append(60 - i * 10).append(';');
        }
        return text.toString();
    }

    static void p03_say_6WordsAreTheMost_aSeventhIsFault5AtItsSay() {
        Edges.due("words", Edges.told(words(6)).count(2), 6);
        Edges.fault(words(6), "say", 5);
        Edges.fault(words(6), "say wg at 5;", 5);
        Edges.fault(words(6), "say wa at 601", 5);
    }

    static void p03_say_wordsAreNumberedAsTold() {
        SamePassers x = Edges.told(words(6));
        Edges.rowDue("tenth", x::tenth, 60, 50, 40, 30, 20, 10, -1);
    }

    static void p03_say_twoWordsMayBeAtOneTenth() {
        Edges.rowDue("tenth", Edges.told(GROUND + "say ww at 5;say vv at 5;")::tenth, 5, 5);
    }

    // "walker: 8 at most, numbered as told"; "walker .. of a ninth"

    private static String walkers(int many) {
        StringBuilder text = new StringBuilder("street 9 lanes 2 frame 0 to 5 sharp 1;say ww at 5;");
        for (int i = 0; i < many; i++) {
            text.append("walker p").append((char) ('a' + i)).append(" pram lane 0 from ").append(8 - i)
                .append(" right pace ").append(i + 1).append(" lag 0;");
        }
        return text.toString();
    }

    static void p03_walker_8AreTheMost_aNinthIsFault5AtItsWalker() {
        Edges.due("walkers", Edges.told(walkers(8)).count(3), 8);
        Edges.fault(walkers(8), "walker", 5);
        Edges.fault(walkers(8), "walker pa cat", 5);
        Edges.fault(walkers(8), "walker pi pram lane 0 from 0 right pace 1 lag 0;", 5);
    }

    static void p03_walker_areNumberedAsTold() {
        SamePassers x = Edges.told(walkers(8));
        Edges.rowDue("start", walker -> x.walker(walker, 2), 8, 7, 6, 5, 4, 3, 2, 1, -1);
        Edges.rowDue("tempo", walker -> x.walker(walker, 4), 1, 2, 3, 4, 5, 6, 7, 8, -1);
    }

    // "KIND: plain, pram, dog, stray"

    static void p03_walker_fourKindsAreTaken_othersAreFault1() {
        String[] kinds = {"plain", "pram", "dog", "stray"};
        for (int kind = 0; kind < 4; kind++) {
            SamePassers x = Edges.told(WALKER + kinds[kind] + " lane 0 from 0 left pace 1 lag 0;");
            Edges.due("kind", x.walker(1, 0), kind);
        }
        for (String other : new String[] {"cat", "left", "lane", "plai", "dogs", "2", "not", "right", ";"}) {
            Edges.fault(WALKER, other + " lane 0", 1);
        }
    }

    // "its lane"

    static void p03_walker_laneOfTheLanes_theNextIsFault4() {
        Edges.due("lane", Edges.told(WALKER + "dog lane 0 from 0 left pace 1 lag 0;").walker(1, 1), 0);
        Edges.due("lane", Edges.told(WALKER + "dog lane 1 from 0 left pace 1 lag 0;").walker(1, 1), 1);
        Edges.fault(WALKER + "dog lane ", "2 from 0", 4);
        Edges.well("street 9 lanes 4 frame 0 to 5 sharp 1;walker bb dog lane 3 from 0 left pace 1 lag 0;");
        Edges.fault("street 9 lanes 4 frame 0 to 5 sharp 1;walker bb dog lane ", "4 from 0", 4);
        Edges.fault("street 9 lanes 1 frame 0 to 5 sharp 1;walker bb dog lane ", "1 from 0", 4);
    }

    // "from a cell"

    static void p03_walker_fromACellOfTheStreet_theNextIsFault4() {
        Edges.due("from", Edges.told(WALKER + "dog lane 0 from 0 left pace 1 lag 0;").walker(1, 2), 0);
        Edges.due("from", Edges.told(WALKER + "dog lane 0 from 8 left pace 1 lag 0;").walker(1, 2), 8);
        Edges.fault(WALKER + "dog lane 0 from ", "9 left", 4);
        Edges.well("street 40 lanes 1 frame 0 to 5 sharp 1;walker bb dog lane 0 from 39 left pace 1 lag 0;");
        Edges.fault("street 40 lanes 1 frame 0 to 5 sharp 1;walker bb dog lane 0 from ", "40 left", 4);
    }

    // "SIDE: left, right"

    static void p03_walker_twoSidesAreTaken_othersAreFault1() {
        Edges.due("side", Edges.told(WALKER + "dog lane 0 from 0 left pace 1 lag 0;").walker(1, 3), 0);
        Edges.due("side", Edges.told(WALKER + "dog lane 0 from 0 right pace 1 lag 0;").walker(1, 3), 1);
        for (String other : new String[] {"up", "pace", "1", "lefts", "take", "plain", ";"}) {
            Edges.fault(WALKER + "dog lane 0 from 0 ", other + " pace 1", 1);
        }
    }

    // "pace 1 to 9 (tenths a cell)"

    static void p03_walker_pace1IsTheLeast_0IsFault4() {
        Edges.due("tempo", Edges.told(WALKER + "dog lane 0 from 0 left pace 1 lag 0;").walker(1, 4), 1);
        Edges.fault(WALKER + "dog lane 0 from 0 left pace ", "0 lag 0;", 4);
    }

    static void p03_walker_pace9IsTheGreatest_10IsFault4() {
        Edges.due("tempo", Edges.told(WALKER + "dog lane 0 from 0 left pace 9 lag 0;").walker(1, 4), 9);
        Edges.fault(WALKER + "dog lane 0 from 0 left pace ", "10 lag 0;", 4);
    }

    // "lag 0 to 99 (tenths)"

    static void p03_walker_lag0IsTheLeast() {
        Edges.due("lag", Edges.told(WALKER + "dog lane 0 from 0 left pace 1 lag 0;").walker(1, 5), 0);
    }

    static void p03_walker_lag99IsTheGreatest_100IsFault4() {
        Edges.due("lag", Edges.told(WALKER + "dog lane 0 from 0 left pace 1 lag 99;").walker(1, 5), 99);
        Edges.fault(WALKER + "dog lane 0 from 0 left pace 1 lag ", "100;", 4);
    }

    // "CUE is nothing or  on NAME  (a word told)"

    static void p03_walker_withoutACueHasNoWord() {
        Edges.due("word", Edges.told(WALKER + "dog lane 0 from 0 left pace 1 lag 0;").walker(1, 6), -1);
    }

    static void p03_walker_cueOnAWordTold() {
        String six = words(6) + "walker aa dog lane 0 from 0 left pace 1 lag 0 on ";
        Edges.due("the first word", Edges.told(six + "wa;").walker(0, 6), 0);
        Edges.due("the last word", Edges.told(six + "wf;").walker(0, 6), 5);
    }

    static void p03_walker_cueOnAWordNotTold_orToldLater_isFault2() {
        String cue = WALKER + "dog lane 0 from 0 left pace 1 lag 0 on ";
        Edges.fault(cue, "vv;", 2);
        Edges.fault(cue, "vv;say vv at 5;", 2);
        Edges.fault(GROUND + "walker bb dog lane 0 from 0 left pace 1 lag 0 on ", "ww;", 2);
    }

    static void p03_walker_cueOnAWalkerOrHimselfIsFault2() {
        String cue = WALKER + "dog lane 0 from 0 left pace 1 lag 0 on ";
        Edges.fault(cue, "aa;", 2);
        Edges.fault(cue, "bb;", 2);
    }

    static void p03_walker_cueWithoutANameIsFault1() {
        String cue = WALKER + "dog lane 0 from 0 left pace 1 lag 0 ";
        Edges.fault(cue + "on ", ";", 1);
        Edges.fault(cue + "on ", "5;", 1);
        Edges.fault(cue + "on ww ", "on ww;", 1);
        Edges.fault(cue, "at ww;", 1);
        Edges.fault(cue, "ww;", 1);
    }

    // "must: a WALKER told, on a word told, at a cell"

    static void p03_must_ofAWalkerNotTold_orToldLater_isFault2() {
        Edges.fault(BASE + "must ", "bb ww 0;", 2);
        Edges.fault(BASE + "must ", "ww ww 0;", 2);
        Edges.fault(GROUND + "say ww at 5;must ", "aa ww 0;walker aa dog lane 0 from 0 left pace 1 lag 0;", 2);
    }

    static void p03_must_onAWordNotTold_orToldLater_isFault2() {
        Edges.fault(BASE + "must aa ", "vv 0;", 2);
        Edges.fault(BASE + "must aa ", "aa 0;", 2);
        Edges.fault(BASE + "must aa ", "vv 0;say vv at 5;", 2);
    }

    static void p03_must_atACellOfTheStreet_theNextIsFault4() {
        Edges.due("off at 0", Edges.told(BASE + "must aa ww 0;").off(0), 100);
        Edges.well(BASE + "must aa ww 8;");
        Edges.fault(BASE + "must aa ww ", "9;", 4);
        String far = "street 40 lanes 1 frame 0 to 5 sharp 1;say ww at 5;walker aa plain lane 0 from 0 right pace 1 lag 99;must aa ww ";
        Edges.due("off at 39", Edges.told(far + "39;").off(0), 39);
        Edges.due("off at 0", Edges.told(far + "0;").off(0), 0);
        Edges.fault(far, "40;", 4);
    }

    // "8 at most"; "must of a ninth"

    private static String musts(int many) {
        StringBuilder text = new StringBuilder(walkers(8));
        for (int i = 0; i < many; i++) {
            text.append("must p").append((char) ('a' + i)).append(" ww ").append(i).append(';');
        }
        return text.toString();
    }

    static void p03_must_8AreTheMost_aNinthIsFault5AtItsMust() {
        Edges.due("musts", Edges.told(musts(8)).count(4), 8);
        Edges.fault(musts(8), "must", 5);
        Edges.fault(musts(8), "must pa ww 0;", 5);
        Edges.fault(musts(8), "must xx", 5);
    }

    // "each WALKER and word so once"; "the second NAME of must if these are so already"

    static void p03_must_ofOneWalkerAndWordTwiceIsFault3AtTheWord() {
        Edges.fault(BASE + "must aa ww 1;must aa ", "ww 1;", 3);
        Edges.fault(BASE + "must aa ww 1;must aa ", "ww 9;", 3);
        Edges.fault(BASE + "must aa ww 1;round 5;must aa ", "ww", 3);
    }

    static void p03_must_ofOneWalkerOnTwoWords_orTwoOnOne_areWell() {
        Edges.well(BASE + "say vv at 5;must aa ww 1;must aa vv 1;");
        Edges.well(BASE + "walker bb dog lane 0 from 0 left pace 1 lag 0;must aa ww 1;must bb ww 1;");
        Edges.well(BASE + "say vv at 5;walker bb dog lane 0 from 0 left pace 1 lag 0;"
            + "must aa ww 1;must bb vv 1;must aa vv 1;must bb ww 1;");
    }

    // "round 0 to 99 (20)"

    private static SamePassers round(String line) {
        return Edges.told("street 4 lanes 1 frame 0 to 3 sharp 1;walker aa plain lane 0 from 3 right pace 1 lag 0;" + line);
    }

    static void p03_round_0IsTheLeast() {
        Edges.timesDue("where", tenth -> round("round 0;").where(0, tenth), 0, 3, 1, 0, 2, 1);
    }

    static void p03_round_99IsTheGreatest_100IsFault4() {
        Edges.timesDue("where", tenth -> round("round 99;").where(0, tenth), 0, 3, 1, -1, 99, -1, 100, 0);
        Edges.fault(GROUND + "round ", "100;", 4);
    }

    static void p03_round_20IfNoneIsTold() {
        Edges.timesDue("where", tenth -> round("").where(0, tenth), 0, 3, 1, -1, 20, -1, 21, 0);
        Edges.timesDue("where", tenth -> round("round 20;").where(0, tenth), 0, 3, 1, -1, 20, -1, 21, 0);
    }

    // "round, quick, odd: once each"

    static void p03_round_aSecondTimeIsFault3AtTheWord() {
        Edges.fault(BASE + "round 5;", "round 6;", 3);
        Edges.fault(BASE + "round 20;", "round", 3);
        Edges.fault(BASE + "round 0;say vv at 5;", "round 100;", 3);
    }

    static void p03_quick_aSecondTimeIsFault3AtTheWord() {
        Edges.fault(BASE + "quick 5;", "quick 6;", 3);
        Edges.fault(BASE + "quick tempo;", "quick", 3);
        Edges.well(BASE + "quick 5;odd 5;round 5;");
    }

    static void p03_odd_aSecondTimeIsFault3AtTheWord() {
        Edges.fault(BASE + "odd 5;", "odd 6;", 3);
        Edges.fault(BASE + "odd passes - 1;", "odd", 3);
    }

    // "A NAME is another WORD than street .. or"

    static void p03_name_noReservedWordIsOne() {
        for (String word : RESERVED) {
            Edges.fault(BASE + "say ", word + " at 5;", 1);
            Edges.fault(BASE + "walker ", word + " dog", 1);
            Edges.fault(WALKER + "dog lane 0 from 0 left pace 1 lag 0 on ", word + ";", 1);
            Edges.fault(BASE + "must ", word + " ww 0;", 1);
            Edges.fault(BASE + "must aa ", word + " 0;", 1);
        }
    }

    static void p03_name_factsAndLongerOrShorterWordsAreNames() {
        for (String fact : new String[] {"tempo", "nth", "kind", "passes"}) {
            Edges.well(GROUND + "say " + fact + " at 5;walker aa dog lane 0 from 0 left pace 1 lag 0 on " + fact + ";must aa " + fact + " 0;");
            Edges.well(GROUND + "say ww at 5;walker " + fact + " dog lane 0 from 0 left pace 1 lag 0;must " + fact + " ww 0;");
        }
        for (String word : RESERVED) {
            Edges.well(GROUND + "say " + word + "x at 5;");
            Edges.well(GROUND + "say x" + word + " at 5;");
        }
    }

    static void p03_name_aFactToldAsANameIsStillAFact() {
        SamePassers x = Edges.told(GROUND + "say nth at 77;walker tempo dog lane 0 from 0 left pace 6 lag 0;quick tempo + nth;");
        Edges.due("tempo", x.walker(0, 4), 6);
    }

    // "no two (words, WALKERS) are alike"; "3 a NAME told already"

    static void p03_name_toldAlreadyIsFault3() {
        Edges.fault(BASE + "say ", "ww at 5;", 3);
        Edges.fault(BASE + "say ", "aa at 5;", 3);
        Edges.fault(BASE + "walker ", "ww dog", 3);
        Edges.fault(BASE + "walker ", "aa dog", 3);
    }

    static void p03_name_ofTheLastOfAllToldIsFault3() {
        Edges.fault(words(5) + "say ", "we at 5;", 3);
        Edges.fault(walkers(7) + "walker ", "pg dog", 3);
        Edges.fault(walkers(8) + "say ", "ph at 5;", 3);
    }

    static void p03_name_unlikeInALetterOrItsLengthIsAnother() {
        Edges.well(BASE + "say w at 5;say www at 5;say wv at 5;say vw at 5;walker a dog lane 0 from 0 left pace 1 lag 0;");
        Edges.well(GROUND + "say abcdefgh at 5;say abcdefgi at 5;say bbcdefgh at 5;say abcdefg at 5;");
        Edges.well(GROUND + "say a at 5;say aa at 5;say b at 5;say ba at 5;say ab at 5;say aaa at 5;");
        Edges.well(GROUND + "say z at 5;say zz at 5;say az at 5;say za at 5;say y at 5;say yz at 5;");
    }

    // "FAULTS, kind + 16 * the place (from 0) of a token, the end being one at the text's length"

    static void p03_fault_ofTheEndIsAtTheTextsLength() {
        Edges.due("street of nothing", Check.street(new SamePassers(), ""), 1);
        Edges.due("street of blanks", Check.street(new SamePassers(), " \n "), 1 + 16 * 3);
        Edges.due("street of a token", Check.street(new SamePassers(), "street"), 1 + 16 * 6);
        Edges.due("street of a token and blanks", Check.street(new SamePassers(), "street  \n"), 1 + 16 * 9);
        Edges.due("street of 1000 blanks", Check.street(new SamePassers(), " ".repeat(1000)), 1 + 16 * 1000);
    }

    static void p03_fault_atTheLastOf1000Signs() {
        String text = GROUND + " ".repeat(999 - GROUND.length());
        Edges.fault(text, ";", 1);
        Edges.well(text + " ");
    }

    static void p03_fault_placeIsOfTheTokensFirstSign() {
        Edges.fault("  \n street   ", "3", 4);
        Edges.fault(BASE + "say\n\n", "abcdefghijk", 1);
        Edges.fault(BASE + "round   ", "0100", 4);
    }

    // "of the first token from the left that is wrong the least"

    static void p03_fault_ofTheFirstWrongTokenFromTheLeft() {
        Edges.fault("street ", "3 lanes 9 x", 4);
        Edges.fault(BASE + "say ", "ww at 601;street", 3);
        Edges.fault(BASE + "must ", "xx yy 9;", 2);
        Edges.fault(BASE + "must aa ", "vv 9;", 2);
        Edges.fault(BASE + "must aa ", "5 vv;", 1);
        Edges.fault(BASE + "say vv at ", "601 walker", 4);
        Edges.fault(BASE + "walker ", "aa cat lane 9", 3);
        Edges.fault(BASE + "quick ", "x;round 100;", 1);
    }

    static void p03_fault_1ComesBefore4() {
        Edges.fault("street ", "10000", 1);
        Edges.fault(GROUND + "say ww at ", "00601", 1);
    }

    static void p03_fault_1ComesBefore2And3() {
        Edges.fault(BASE + "must ", "abcdefghi ww", 1);
        Edges.fault(BASE + "say ", "say at 5;", 1);
    }

    static void p03_fault_2ComesBefore3() {
        // The second NAME is of no word, though the WALKER has a must already.
        Edges.fault(BASE + "must aa ww 1;must aa ", "aa 1;", 2);
    }

    static void p03_fault_5AtTheFirstWordComesBeforeWhatIsBehindIt() {
        Edges.fault(words(6), "say say", 5);
        Edges.fault(walkers(8), "walker ;", 5);
        Edges.fault(musts(8), "must 5", 5);
    }

    static void p03_fault_fullPlacesLeaveTheOtherLinesFree() {
        Edges.well(musts(8) + "say vv at 5;round 1;quick 1;odd 1;");
        Edges.well(words(6) + "walker aa dog lane 0 from 0 left pace 1 lag 0;must aa wa 0;");
    }

    // "0, or its FAULT (all stays then)"

    private static void staysWithFault(String text, int kind, int place) {
        Edges.leavesAll("street of " + text, SamePassers::takes, x -> Check.street(x, text), kind + 16L * place);
    }

    static void p03_street_withFault1LeavesAllAsItWas() {
        staysWithFault("street 9 lanes 2 frame 0 to 5 sharp 1", 1, 37);
        staysWithFault(BASE + "street", 1, BASE.length());
    }

    static void p03_street_withFault2LeavesAllAsItWas() {
        staysWithFault(BASE + "must bb", 2, BASE.length() + 5);
    }

    static void p03_street_withFault3LeavesAllAsItWas() {
        staysWithFault(BASE + "say ww", 3, BASE.length() + 4);
        staysWithFault(BASE + "quick 9;odd 9;round 9;round 9;", 3, BASE.length() + 22);
    }

    static void p03_street_withFault4LeavesAllAsItWas() {
        staysWithFault("street 41", 4, 7);
        staysWithFault(BASE + "must aa ww 99;", 4, BASE.length() + 11);
    }

    static void p03_street_withFault5LeavesAllAsItWas() {
        staysWithFault(musts(8) + "must", 5, musts(8).length());
        staysWithFault(BASE + "quick not not not not not 1;", 5, BASE.length() + 26);
    }

    static void p03_street_withAFaultKeepsTheOldNames() {
        SamePassers x = Edges.told(BASE);
        Check.street(x, GROUND + "walker bb dog lane 0 from 0 left pace 1 lag 0;say");
        Edges.due("takes of the old one", Check.takes(x, "turn aa;"), 0);
        Edges.due("takes of the new one", Check.takes(x, "turn bb;"), 2 + 16 * 5);
    }

    // "Without a FAULT a STREET is the STREET from then on: take 0, all start and go as told, .."

    private static SamePassers anew() {
        SamePassers x = Edges.rich();
        x.takes();
        Edges.due("street", Check.street(x, Portrait.STREET), 0);
        return x;
    }

    static void p03_anew_isAsOnANewObject() {
        Edges.sameDue("told anew", anew(), Edges.told(Portrait.STREET));
    }

    static void p03_anew_takeIs0() {
        Edges.due("take", anew().count(5), 0);
        Edges.due("tempo by take 0", anew().walker(0, 4), 5);
    }

    static void p03_anew_allStartAndGoAsTold() {
        SamePassers x = anew();
        Edges.rowDue("start", walker -> x.walker(walker, 2), 0, 8, 3);
        Edges.rowDue("side", walker -> x.walker(walker, 3), 1, 1, 0);
    }

    static void p03_anew_nobodyIsLate() {
        Edges.rowDue("late", walker -> anew().walker(walker, 7), 0, 0, 0);
    }

    static void p03_anew_noTakes() {
        Edges.due("lines", anew().count(6), 0);
        Edges.rowDue("judged", anew()::judged, -1, 0, 0);
    }

    static void p03_anew_nothingTold() {
        Edges.due("TOLD", anew().count(7), 0);
        Edges.due("laws", Check.laws(anew(), -1), 6010);
    }

    static void p03_anew_noSight() {
        Edges.due("SIGHTS", anew().count(8), 0);
        Edges.due("hired", anew().hired(-1), 0);
    }

    static void p03_anew_nothingCanBeUndone() {
        Edges.due("count(9)", anew().count(9), 0);
        Edges.due("undo", anew().undo(), false);
    }

    static void p03_anew_noMarkIsThere() {
        SamePassers x = Edges.rich();
        for (int mark = 0; mark < 4; mark++) {
            x.mark(mark, false);
        }
        x.takes();
        Check.street(x, GROUND);
        for (int mark = 0; mark < 4; mark++) {
            Edges.due("mark(" + mark + ", true)", x.mark(mark, true), false);
        }
    }

    static void p03_anew_nothingOfTheOldStreetIsLeft() {
        SamePassers x = Edges.told(musts(8) + "round 0;quick 9;odd 9;");
        Edges.due("street", Check.street(x, "street 4 lanes 1 frame 1 to 2 sharp 0;walker aa plain lane 0 from 3 right pace 1 lag 0;"), 0);
        Edges.rowDue("count", x::count, 4, 1, 0, 1, 0);
        Edges.due("tempo", x.walker(0, 4), 1);
        Edges.due("round", x.where(0, 20), -1);
        Edges.due("round", x.where(0, 21), 0);
        // In the frame at 22 and each 24 later, 25 times up to 600.
        Edges.due("passes", x.walker(0, 8), 25);
        Edges.due("known", x.walker(0, 9), 10);
        Edges.due("other walkers", x.walker(1, 0), -1);
        Edges.due("seen blurred", x.seen(0, 22), 1);
        Check.street(x, "street 4 lanes 1 frame 1 to 2 sharp 0;walker aa plain lane 0 from 3 right pace 1 lag 0;odd 7;");
        Edges.due("known by the new odd", x.walker(0, 9), 7);
        Check.street(x, "street 4 lanes 1 frame 1 to 2 sharp 0;walker aa plain lane 0 from 3 right pace 1 lag 0;");
        Edges.due("known without odd", x.walker(0, 9), 10);
    }

    static void p03_anew_toldAgainAndAgainIsTheSame() {
        String full = musts(8) + "round 0;quick 9;odd 9;";
        SamePassers x = new SamePassers();
        for (int i = 0; i < 3; i++) {
            Edges.due("street", Check.street(x, full), 0);
        }
        for (int i = 0; i < 2; i++) {
            Edges.due("street with a FAULT at its end", Check.street(x, full + "x"), 1 + 16L * full.length());
        }
        Edges.due("street", Check.street(x, Portrait.STREET), 0);
        Edges.sameDue("told at last", x, Edges.told(Portrait.STREET));
    }

    static void p03_anew_namesOfTheOldStreetAreFree() {
        SamePassers x = Edges.told(BASE);
        Edges.due("street", Check.street(x, BASE), 0);
        Edges.due("street", Check.street(x, GROUND + "say aa at 5;walker ww dog lane 0 from 0 left pace 1 lag 0;"), 0);
        Edges.due("takes of an old name", Check.takes(x, "turn aa;"), 2 + 16 * 5);
    }
}
