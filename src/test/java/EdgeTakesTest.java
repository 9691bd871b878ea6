/** Edges of promises 4 and 12: TAKES told, their FAULTS, and how they are JUDGED. */
public final class EdgeTakesTest {
    private static final String STREET = "street 10 lanes 1 frame 0 to 9 sharp 0;say go at 20;"
        + "walker ann plain lane 0 from 0 right pace 2 lag 2;must ann go 9;";

    public static void main(String[] args) {
        Edges.run(EdgeTakesTest.class);
    }

    /** The FAULT of TAKES lies at the start of what follows the first text. */
    private static void fault(String before, String from, int kind) {
        String text = before + from;
        Edges.due("takes of " + text, Check.takes(Edges.told(STREET), text), kind + 16L * before.length());
    }

    private static SamePassers told(String takes) {
        return told(STREET, takes);
    }

    private static SamePassers told(String street, String takes) {
        SamePassers x = Edges.told(street);
        Edges.due("takes of " + takes, Check.takes(x, takes), 0);
        return x;
    }

    private static void judgedDue(SamePassers x, int line, int good, int take) {
        Edges.rowDue("judged", x::judged, line, good, take);
    }

    // "TAKES: any number of start NAME N ; turn NAME ; late NAME N ; take ;"

    static void p04_takes_ofNoLinesAreWell() {
        Edges.due("lines", told("").count(6), 0);
        Edges.due("lines", told(" \n ").count(6), 0);
    }

    static void p04_takes_eachLineAlone() {
        for (String line : new String[] {"start ann 5;", "turn ann;", "late ann 5;", "take;"}) {
            Edges.due("lines", told(line).count(6), 1);
        }
    }

    static void p04_takes_otherLinesAreFault1() {
        for (String line : new String[] {"street 9", "say ww at 5;", "walker bb", "must ann go 5;", "round 5;", "quick 1;",
            "odd 1;", "ann", "go", "5", ";", "(", "A", "left", "right", "takes;", "abcdefghi"}) {
            fault("", line, 1);
            fault("take;", line, 1);
        }
    }

    static void p04_takes_eachTokenHasItsPlace() {
        for (String line : new String[] {"start ann 5 ;", "turn ann ;", "late ann 5 ;", "take ;"}) {
            StringBuilder before = new StringBuilder("take;");
            for (String token : line.split(" ")) {
                if (before.length() > 5) {
                    fault(before.toString(), "", 1);
                    fault(before.toString(), "(", 1);
                    fault(before.toString(), "late", 1);
                }
                before.append(token).append(' ');
            }
        }
    }

    // "(WALKERS; a cell; 0 to 99 tenths)"; "2 .. of no WALKER (.. behind start, turn, late) told"

    static void p04_start_ofAWordOrNobodyIsFault2() {
        fault("start ", "go 5;", 2);
        fault("start ", "bob 5;", 2);
    }

    static void p04_turn_ofAWordOrNobodyIsFault2() {
        fault("turn ", "go;", 2);
        fault("turn ", "bob;", 2);
    }

    static void p04_late_ofAWordOrNobodyIsFault2() {
        fault("late ", "go 5;", 2);
        fault("late ", "bob 5;", 2);
    }

    static void p04_name_noReservedWordIsOne() {
        for (String word : new String[] {"street", "lanes", "frame", "to", "sharp", "say", "at", "walker", "lane", "from",
            "pace", "lag", "on", "must", "round", "quick", "odd", "start", "turn", "late", "take", "left", "right", "plain",
            "pram", "dog", "stray", "not", "and", "or"}) {
            fault("start ", word + " 5;", 1);
            fault("turn ", word + ";", 1);
            fault("late ", word + " 5;", 1);
        }
    }

    static void p04_start_atCell0AndTheLastCell_theNextIsFault4() {
        Edges.due("lines", told("start ann 0;start ann 9;").count(6), 2);
        fault("start ann ", "10;", 4);
        fault("start ann ", "9999;", 4);
        fault("start ann ", "00009;", 1);
    }

    static void p04_late_by0And99_100IsFault4() {
        Edges.due("lines", told("late ann 0;late ann 99;").count(6), 2);
        fault("late ann ", "100;", 4);
        fault("late ann ", "00099;", 1);
    }

    static void p04_takes_ofTheFirstStreetKnowNobody() {
        SamePassers x = new SamePassers();
        Edges.due("turn", Check.takes(x, "turn ann;"), 2 + 16 * 5);
        Edges.due("take", Check.takes(x, "take;"), 0);
        Edges.due("lines", x.count(6), 1);
    }

    // "30 lines at most"; "the first word of a 31st line of TAKES"

    static void p04_takes_30LinesAreTheMost() {
        Edges.due("lines", told("take;".repeat(30)).count(6), 30);
        Edges.due("lines", told("start ann 0;turn ann;late ann 9;".repeat(10)).count(6), 30);
    }

    static void p04_takes_a31stLineIsFault5AtItsFirstWord() {
        for (String line : new String[] {"start ann 5;", "turn ann;", "late ann 5;", "take;", "take", "start bob", "turn 5", "late ann 100;"}) {
            fault("take;".repeat(30), line, 5);
        }
    }

    static void p04_takes_whatIsNoLineBehind30IsFault1() {
        for (String line : new String[] {"say", "ann", ";", "5", "A", "abcdefghi", "street"}) {
            fault("take;".repeat(30), line, 1);
        }
    }

    static void p04_takes_aFaultWithinThe30thLineIsItsOwn() {
        fault("take;".repeat(29) + "turn ", "bob;", 2);
        fault("take;".repeat(29) + "take ", "take;", 1);
    }

    // "FAULTS .. of the first token from the left"

    static void p04_fault_ofTheEndIsAtTheTextsLength() {
        fault("take", "", 1);
        fault("take;turn ann  \n", "", 1);
    }

    static void p04_fault_ofTheFirstWrongTokenFromTheLeft() {
        fault("start ", "bob 10;turn 5;", 2);
        fault("take;late ann ", "100 late bob", 4);
    }

    // "likewise": "0, or its FAULT (all stays then)"

    private static void staysWithFault(String text, int fault) {
        Edges.leavesAll("takes of " + text, SamePassers::takes, x -> Check.takes(x, text), fault);
    }

    static void p04_takes_withFault1LeaveAllAsItWas() {
        staysWithFault("take;take;take;say", 1 + 16 * 15);
        staysWithFault("start nun 9;turn nun;take", 1 + 16 * 25);
    }

    static void p04_takes_withFault2LeaveAllAsItWas() {
        staysWithFault("take;turn go;", 2 + 16 * 10);
    }

    static void p04_takes_withFault4LeaveAllAsItWas() {
        staysWithFault("take;start nun 10;", 4 + 16 * 15);
        staysWithFault("late nun 100;", 4 + 16 * 9);
    }

    static void p04_takes_withFault5LeaveAllAsItWas() {
        staysWithFault("take;".repeat(31), 5 + 16 * 150);
    }

    static void p04_takes_toldAgainTakeThePlaceOfTheOldOnes() {
        SamePassers x = told("take;".repeat(30));
        Edges.due("takes", Check.takes(x, "late ann 1;"), 0);
        Edges.due("lines", x.count(6), 1);
        judgedDue(x, -1, 0, 0);
    }

    static void p04_takes_changeNothingElse() {
        SamePassers x = Edges.rich();
        SamePassers y = Edges.rich();
        x.takes();
        y.takes();
        Check.takes(x, "start nun 9;turn rex;late man 9;take;");
        Check.takes(y, "start nun 9;turn rex;late man 9;take;");
        x.takes();
        Check.takes(y, "");
        Edges.due("take", x.count(5), 1);
        Edges.due("start", x.walker(0, 2), 1);
        Edges.due("what can be undone", x.count(9), 6);
        Edges.sameDue("without lines again", x, y);
    }

    // "JUDGED, what 0: the line (NONE: none), 1: GOOD ones, 2: the take; -2: others"

    static void p12_judged_whatMinus1And3AreOthers() {
        SamePassers x = told("take;");
        Edges.due("judged(-1)", x.judged(-1), -2);
        Edges.due("judged(3)", x.judged(3), -2);
        for (int far : Edges.FAR) {
            Edges.due("judged(" + far + ")", x.judged(far), -2);
        }
        Edges.due("judged(3) of a new object", new SamePassers().judged(3), -2);
    }

    static void p12_judged_withoutTakes() {
        judgedDue(new SamePassers(), -1, 0, 0);
        judgedDue(Edges.told(STREET), -1, 0, 0);
    }

    static void p12_judged_linesWithoutATakeEndNone() {
        judgedDue(told("late ann 99;start ann 5;turn ann;"), -1, 0, 0);
    }

    static void p12_judged_whatComesBehindTheLastTakeEndsNone() {
        judgedDue(told("take;late ann 99;"), -1, 1, 1);
    }

    static void p12_judged_theFirstOfTheLinesIsLine0() {
        judgedDue(told(STREET + "quick 9;", "take;"), 0, 0, 1);
    }

    static void p12_judged_allLinesAreCountedNotTakesAlone() {
        judgedDue(told("take;late ann 1;late ann 0;late ann 9;take;"), 4, 1, 2);
    }

    static void p12_judged_theFirstThatIsNotGoodNotTheLast() {
        judgedDue(told("take;late ann 9;take;take;late ann 9;take;"), 2, 2, 4);
    }

    static void p12_judged_30TakesAreTheMost() {
        judgedDue(told("take;".repeat(30)), -1, 30, 30);
        judgedDue(told("late ann 99;" + "take;".repeat(29)), 1, 28, 29);
        judgedDue(told("take;".repeat(28) + "late ann 99;take;"), 29, 28, 29);
    }

    static void p12_judged_isFromTake0WhateverTheTakeIs() {
        SamePassers x = told(STREET + "quick tempo + (0 < nth);", "take;take;");
        judgedDue(x, 1, 1, 2);
        for (int i = 0; i < 60; i++) {
            x.take();
        }
        judgedDue(x, 1, 1, 2);
    }

    static void p12_judged_allAsToldWhateverIsDoneByHand() {
        SamePassers x = told("take;turn ann;turn ann;take;");
        judgedDue(x, -1, 2, 2);
        x.start(0, 5);
        x.turn(0);
        x.late(0, 50);
        judgedDue(x, -1, 2, 2);
    }

    static void p12_judged_lateIsForItsTakeAlone() {
        judgedDue(told("late ann 9;take;take;"), 1, 1, 2);
    }

    static void p12_judged_lateIsInPlaceOfWhatWasTold() {
        judgedDue(told("late ann 9;late ann 0;take;"), -1, 1, 1);
        judgedDue(told("late ann 0;late ann 9;take;"), 2, 0, 1);
    }

    static void p12_judged_startsAndTurnsAreForAllTakesFromThereOn() {
        judgedDue(told("start ann 1;take;take;start ann 0;take;"), 1, 1, 3);
        judgedDue(told("turn ann;take;take;turn ann;take;"), 1, 1, 3);
    }

    static void p12_judged_turnsOfOneWhoGoesToTheLeft() {
        String left = STREET.replace("right", "left");
        judgedDue(told(left, "take;turn ann;take;turn ann;take;turn ann;take;"), 0, 2, 4);
    }

    static void p12_judged_aBumpMakesATakeNotGood() {
        String two = STREET + "walker bob pram lane 0 from 9 right pace 1 lag 0;";
        judgedDue(told(two, "take;start bob 0;take;start bob 1;take;"), 2, 2, 3);
    }

    static void p12_judged_nobodyAndNoMustsAreGood() {
        SamePassers x = new SamePassers();
        Check.takes(x, "take;take;");
        judgedDue(x, -1, 2, 2);
    }

    static void p12_judged_leavesAllAsItWas() {
        for (int what = -1; what <= 3; what++) {
            int asked = what;
            long want = Edges.rich().judged(what);
            Edges.leavesAll("judged(" + what + ")", x -> x.judged(asked), want);
        }
    }
}
