/** Edges of E, the laws quick and odd: promise 3 for how they are read, promise 5 for what comes of them. */
public final class EdgeLawTest {
    private static final String GROUND = "street 9 lanes 2 frame 0 to 5 sharp 1;";
    private static final String QUICK = GROUND + "quick ";
    private static final String ODD = GROUND + "odd ";

    public static void main(String[] args) {
        Edges.run(EdgeLawTest.class);
    }

    /** The TEMPO, by this E, of one whose pace is 7, in a take. */
    private static int tempo(String e, int take) {
        SamePassers x = Edges.told(GROUND + "walker aa plain lane 0 from 0 left pace 7 lag 0;quick " + e + ";");
        for (int i = 0; i < take; i++) {
            x.take();
        }
        return x.walker(0, 4);
    }

    private static void tempoDue(String e, int want) {
        Edges.due("tempo by " + e, tempo(e, 0), want);
    }

    /** What E comes to, if it is -49 to 49: it is laid into the middle of what a TEMPO may be. */
    private static void valueDue(String e, int want) {
        tempoDue("50 + (" + e + ")", 50 + want);
    }

    /** One of a kind who starts in a frame of one cell, and comes back again and again but as a pram. */
    private static SamePassers passing(String kind, String odd) {
        return Edges.told("street 4 lanes 1 frame 0 to 0 sharp 1;walker aa " + kind + " lane 0 from 0 right pace 1 lag 0;" + odd);
    }

    /** One who stands in a frame of one cell till a word, leaves it, and is back 7 tenths behind it, and each 8 later. */
    private static SamePassers dog(int tenth, String odd) {
        return Edges.told("street 4 lanes 1 frame 0 to 0 sharp 1;say go at " + tenth
            + ";walker aa dog lane 0 from 0 right pace 1 lag 0 on go;" + odd);
    }

    // "E: TEST { and TEST or or TEST }, from the left"

    static void p03_law_oneTestIsAnE() {
        tempoDue("7", 7);
        tempoDue("tempo", 7);
    }

    static void p03_law_andAndOrAreReadFromTheLeft() {
        valueDue("1 or 1 and 0", 0);
        valueDue("0 and 0 or 1", 1);
        valueDue("0 and 1 or 1 and 1", 1);
        valueDue("1 or 0 and 0 or 0", 0);
    }

    static void p03_law_withoutATestBehindAndIsFault1() {
        Edges.fault(QUICK + "1 and ", ";", 1);
        Edges.fault(QUICK + "1 or ", "or 1;", 1);
        Edges.fault(QUICK, "and 1;", 1);
        Edges.fault(QUICK, "or 1;", 1);
        Edges.fault(QUICK + "1 and ", "", 1);
    }

    // "TEST: SUM, or SUM < SUM, or SUM = SUM"

    static void p03_law_aSecondComparisonIsFault1() {
        Edges.fault(QUICK + "1 < 2 ", "< 3;", 1);
        Edges.fault(QUICK + "1 < 2 ", "= 3;", 1);
        Edges.fault(QUICK + "1 = 2 ", "< 3;", 1);
        Edges.fault(QUICK + "1 = 2 ", "= 3;", 1);
        Edges.well(QUICK + "(1 < 2) < 3;");
        Edges.well(QUICK + "1 < 2 and 3 < 4 or 5 = 6;");
    }

    static void p03_law_lessIsNotSoOfEquals() {
        valueDue("3 < 4", 1);
        valueDue("4 < 4", 0);
        valueDue("5 < 4", 0);
        valueDue("0 - 5 < 0 - 4", 1);
    }

    static void p03_law_equalIsSoOfEqualsAlone() {
        valueDue("3 = 4", 0);
        valueDue("4 = 4", 1);
        valueDue("5 = 4", 0);
    }

    static void p03_law_sumsAreCompared() {
        valueDue("1 + 2 = 4 - 1", 1);
        valueDue("2 * 3 < 3 + 4", 1);
        valueDue("3 + 4 < 2 * 3", 0);
    }

    // "SUM: PRODUCT { + or - PRODUCT }; PRODUCT: PART { * PART }"

    static void p03_law_sumsAreReadFromTheLeft() {
        tempoDue("20 - 5 - 3", 12);
        tempoDue("20 - 5 + 3", 18);
        tempoDue("20 - (5 - 3)", 18);
    }

    static void p03_law_productsBindMore() {
        tempoDue("2 + 3 * 4", 14);
        tempoDue("2 * 3 + 4", 10);
        tempoDue("30 - 2 * 3 * 4", 6);
        tempoDue("(2 + 3) * 4", 20);
    }

    static void p03_law_noSignStandsBeforeAPart() {
        Edges.fault(QUICK, "- 1;", 1);
        Edges.fault(QUICK, "+ 1;", 1);
        Edges.fault(QUICK + "1 + ", "- 1;", 1);
        // A fact before it does not make a sign, or none, a fact.
        for (String sign : new String[] {"+ 1;", ";", ") ;", "A;", "12345;", "abcdefghi;", "and 1;"}) {
            Edges.fault(QUICK + "tempo - ", sign, 1);
            Edges.fault(ODD + "passes * ", sign, 1);
        }
        Edges.fault(QUICK + "2 * ", "* 2;", 1);
        Edges.fault(QUICK + "2 * ", "< 2;", 1);
    }

    // "PART: a NUMBER, a fact, not PART, ( E )"

    static void p03_law_aNumberMayBe0To9999() {
        valueDue("0", 0);
        valueDue("9999 - 9998", 1);
        Edges.fault(QUICK, "10000;", 1);
    }

    static void p03_law_noPartIsFault1() {
        for (String other : new String[] {";", ")", "street", "left", "aa", "a", "", "A", "on", "pace"}) {
            Edges.fault(QUICK, other, 1);
            Edges.fault(QUICK + "not ", other, 1);
            Edges.fault(QUICK + "( ", other, 1);
            Edges.fault(QUICK + "1 + ", other, 1);
        }
    }

    static void p03_law_aPartBehindAPartIsFault1() {
        Edges.fault(QUICK + "1 ", "2;", 1);
        Edges.fault(QUICK + "tempo ", "nth;", 1);
        Edges.fault(QUICK + "1 ", "not 2;", 1);
        Edges.fault(QUICK + "tempo ", "tempo;", 1);
        Edges.fault(QUICK + "1 ", "( 2 );", 1);
    }

    static void p03_law_bracketsMustBeClosedOnce() {
        Edges.fault(QUICK + "( 1 ", ";", 1);
        Edges.fault(QUICK + "( 1 ", "", 1);
        Edges.fault(QUICK + "1 ", ");", 1);
        Edges.fault(QUICK + "( 1 ) ", ");", 1);
        Edges.fault(QUICK + "( ", ") 1;", 1);
    }

    static void p03_law_notBindsItsPartAlone() {
        valueDue("not 0 * 5", 5);
        valueDue("not 1 + 2", 2);
        valueDue("not 0 = 1", 1);
        valueDue("not (0 = 1)", 1);
        valueDue("not not 7", 1);
    }

    // "no PART lies within 5 of not and ( )"; "not, or a PART, within 5 others"

    static void p03_law_aPartWithin4IsWell() {
        tempoDue("((((42))))", 42);
        Edges.well(QUICK + "not not not not 1;");
        Edges.well(QUICK + "(not (not tempo));");
        Edges.well(QUICK + "not (not (nth));");
    }

    static void p03_law_aNumberWithin5IsFault5() {
        Edges.fault(QUICK + "(((((", "42)))));", 5);
        Edges.fault(QUICK + "not not not not not ", "1;", 5);
        Edges.fault(QUICK + "(not (not (", "1)));", 5);
        Edges.fault(QUICK + "not (not (not ", "1));", 5);
    }

    static void p03_law_aFactWithin5IsFault5() {
        Edges.fault(QUICK + "(((((", "tempo)))));", 5);
        Edges.fault(QUICK + "not not not not not ", "nth;", 5);
        Edges.fault(ODD + "((not not (", "kind))));", 5);
        Edges.fault(ODD + "((not not (", "passes))));", 5);
    }

    static void p03_law_notAndBracketWithin5AreFault5() {
        Edges.fault(QUICK + "not not not not not ", "not 1;", 5);
        Edges.fault(QUICK + "not not not not not ", "(1);", 5);
        Edges.fault(QUICK + "(((((", "not 1)))));", 5);
        Edges.fault(QUICK + "(((((", "((1))))));", 5);
    }

    static void p03_law_whatIsNoPartWithin5IsFault1() {
        for (String other : new String[] {";", ")", "kind", "xx", "<", "abcdefghi", "10000", "A", ""}) {
            Edges.fault(QUICK + "(((((", other, 1);
            Edges.fault(QUICK + "not not not not not ", other, 1);
        }
    }

    static void p03_law_aSecondPartWithin5IsFault5Too() {
        Edges.fault(QUICK + "((((1 + not ", "1))));", 5);
        Edges.fault(QUICK + "((((1 * (", "1)))));", 5);
        Edges.fault(QUICK + "((((1 < 2 and (", "1)))));", 5);
    }

    static void p03_law_partsBesideEachOtherDoNotAddUp() {
        Edges.well(QUICK + "not not not not 1 + not not not not 1 * ((((tempo)))) - ((not not 1));");
        Edges.well(QUICK + "((((1)))) < ((((2)))) and ((((3)))) = not not not not 4;");
    }

    static void p03_law_aTextFullOfPartsIsRead() {
        String text = QUICK + "1" + "+1".repeat(97);
        tempoDue("1" + "+1".repeat(97), 98);
        Edges.well(text + ";");
        String full = QUICK + "1" + "-1".repeat((1000 - QUICK.length() - 2) / 2);
        Edges.well(full + ";");
        Edges.fault(full.substring(0, full.length() - 1), ";", 1);
    }

    // "Facts: of quick tempo (the WALKER's pace), nth (the take, from 0); of odd kind .., passes"

    static void p03_law_factsOfTheOtherLawAreFault1() {
        Edges.fault(QUICK, "kind;", 1);
        Edges.fault(QUICK, "passes;", 1);
        Edges.fault(ODD, "tempo;", 1);
        Edges.fault(ODD, "nth;", 1);
    }

    static void p05_tempo_nthIs0InTake0_60InTake60() {
        Edges.due("take 0", tempo("20 + nth", 0), 20);
        Edges.due("take 1", tempo("20 + nth", 1), 21);
        Edges.due("take 60", tempo("20 + nth", 60), 80);
    }

    static void p05_tempo_isOfEachWalkersOwnPace() {
        SamePassers x = Edges.told(GROUND + "walker aa plain lane 0 from 0 left pace 1 lag 0;walker bb plain lane 0 from 0 left pace 9 lag 0;quick tempo * 2;");
        Edges.rowDue("tempo", walker -> x.walker(walker, 4), 2, 18);
    }

    static void p05_known_kindIs0To3() {
        String[] kinds = {"plain", "pram", "dog", "stray"};
        for (int kind = 0; kind < 4; kind++) {
            SamePassers x = passing(kinds[kind], "odd kind + 4;");
            boolean twice = x.walker(0, 8) > 1;
            Edges.due(kinds[kind] + " passes twice", twice, kind != 1);
            Edges.due("known of " + kinds[kind], x.walker(0, 9), kind == 1 ? 0 : kind + 4);
        }
    }

    // "Of not, and, or, < and = comes 1 or 0; what is not 0 is so"

    static void p03_law_notOfWhatIsNot0Is0() {
        valueDue("not 0", 1);
        valueDue("not 1", 0);
        valueDue("not 7", 0);
        valueDue("not (0 - 1)", 0);
        // A not that begins an E, with nothing before it.
        tempoDue("not 7", 1);
        tempoDue("not 0 + 5", 6);
        tempoDue("not 3 + 5", 5);
    }

    static void p03_law_andIsSoOfBothThatAreNot0() {
        valueDue("5 and 7", 1);
        valueDue("2 and 1", 1);
        valueDue("5 and 0", 0);
        valueDue("0 and 5", 0);
        valueDue("0 and 0", 0);
        valueDue("(0 - 1) and (0 - 2)", 1);
    }

    static void p03_law_orIsSoOfOneThatIsNot0() {
        valueDue("5 or 7", 1);
        valueDue("5 or 0", 1);
        valueDue("0 or 5", 1);
        valueDue("0 or 0", 0);
        valueDue("0 or (0 - 1)", 1);
    }

    // "ints wrap"

    static void p03_law_intsWrap() {
        // 46340 * 46340 + 88047 is the greatest int.
        String greatest = "(4634 * 10 * (4634 * 10) + 8804 * 10 + 7)";
        valueDue("0 < " + greatest, 1);
        valueDue(greatest + " + 1 < 0", 1);
        valueDue("0 - " + greatest + " - 1 < 0", 1);
        valueDue("0 < 0 - " + greatest + " - 2", 1);
        valueDue(greatest + " * 2 + 2", 0);
        valueDue("256 * 256 * (256 * 256)", 0);
    }

    // "his TEMPO is the E of quick (1 at least, 99 at most)"; "Without quick: tempo"

    static void p05_tempo_1AtLeast() {
        tempoDue("1", 1);
        tempoDue("0", 1);
        tempoDue("2", 2);
        tempoDue("0 - 1", 1);
        tempoDue("256 * 256 * 256 * 128", 1);
    }

    static void p05_tempo_99AtMost() {
        tempoDue("98", 98);
        tempoDue("99", 99);
        tempoDue("100", 99);
        tempoDue("9999 * 9999", 99);
    }

    static void p05_tempo_withoutQuickIsThePace() {
        SamePassers x = Edges.told(GROUND + "walker aa plain lane 0 from 0 left pace 1 lag 0;walker bb plain lane 0 from 0 left pace 9 lag 0;");
        for (int take = 0; take <= 60; take += 60) {
            Edges.rowDue("tempo", walker -> x.walker(walker, 4), 1, 9);
            for (int i = 0; i < 60; i++) {
                x.take();
            }
        }
    }

    // "KNOWN: of ten, the E of odd (0 to 10) if he PASSES twice or more, else 0"; "without odd: passes - 1"

    static void p05_known_10AtMost() {
        Edges.due("9", passing("dog", "odd 9;").walker(0, 9), 9);
        Edges.due("10", passing("dog", "odd 10;").walker(0, 9), 10);
        Edges.due("11", passing("dog", "odd 11;").walker(0, 9), 10);
        Edges.due("9999", passing("dog", "odd 9999 * 9999;").walker(0, 9), 10);
    }

    static void p05_known_0AtLeast() {
        Edges.due("1", passing("dog", "odd 1;").walker(0, 9), 1);
        Edges.due("0", passing("dog", "odd 0;").walker(0, 9), 0);
        Edges.due("-1", passing("dog", "odd 0 - 1;").walker(0, 9), 0);
        Edges.due("the least int", passing("dog", "odd 256 * 256 * 256 * 128;").walker(0, 9), 0);
    }

    static void p05_known_ofOnePassIs0WhateverOddSays() {
        Edges.due("passes", dog(594, "odd 10;").walker(0, 8), 1);
        Edges.due("known", dog(594, "odd 10;").walker(0, 9), 0);
    }

    static void p05_known_ofTwoPassesIsByOdd() {
        Edges.due("passes", dog(593, "odd 6;").walker(0, 8), 2);
        Edges.due("known", dog(593, "odd 6;").walker(0, 9), 6);
    }

    static void p05_known_withoutOddIsPassesLess1() {
        Edges.due("two passes", dog(593, "").walker(0, 9), 1);
        Edges.due("three passes", dog(585, "").walker(0, 9), 2);
        Edges.due("eleven passes", dog(521, "").walker(0, 8), 11);
        Edges.due("eleven passes", dog(521, "").walker(0, 9), 10);
        Edges.due("twelve passes", dog(513, "").walker(0, 8), 12);
        Edges.due("twelve passes", dog(513, "").walker(0, 9), 10);
    }

    static void p05_known_passesAreAFactOfOdd() {
        Edges.due("two passes", dog(593, "odd passes * 4;").walker(0, 9), 8);
        Edges.due("three passes", dog(585, "odd passes * 3;").walker(0, 9), 9);
    }
}
