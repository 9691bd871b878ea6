/** Edges of the TAPE and its TOKENS: promise 2, and of promises 3 and 4 what they read. */
public final class EdgeTapeTest {
    private static final String GROUND = "street 9 lanes 2 frame 0 to 5 sharp 1;";
    private static final long BLANKS = 0x2020202020202020L;

    public static void main(String[] args) {
        Edges.run(EdgeTapeTest.class);
    }

    private static long first(int sign) {
        return (long) sign << 56;
    }

    /** How many signs are there once this byte came alone. */
    private static int there(int sign) {
        return new SamePassers().feed(first(sign), 0, 0);
    }

    private static SamePassers withBlanks(int many) {
        SamePassers x = new SamePassers();
        Check.feed(x, " ".repeat(many));
        Edges.due("blanks there", x.count(10), many);
        return x;
    }

    // "Up to 24 signs come behind the TAPE: the bytes of a, b, c, of each the highest first"

    static void p02_feed_eachOfThe24BytesHasItsPlace() {
        for (int place = 0; place < 24; place++) {
            SamePassers x = new SamePassers();
            StringBuilder signs = new StringBuilder(" ".repeat(24));
            signs.setCharAt(place, 'A');
            Edges.due("feed", Check.feed(x, signs.toString()), 24);
            Edges.due("takes with A at " + place, x.takes(), 1 + 16 * place);
        }
    }

    static void p02_feed_signsComeBehindThoseThatAreThere() {
        SamePassers x = new SamePassers();
        Check.feed(x, "ta");
        Check.feed(x, "ke");
        Edges.due("feed", Check.feed(x, ";"), 5);
        Edges.due("takes", x.takes(), 0);
        Edges.due("lines", x.count(6), 1);
    }

    // "others than 10 and 32 .. 126 .. are left out"

    static void p02_feed_byte10IsTaken_9And11AreLeftOut() {
        Edges.due("9", there(9), 0);
        Edges.due("10", there(10), 1);
        Edges.due("11", there(11), 0);
    }

    static void p02_feed_byte32IsTaken_31IsLeftOut() {
        Edges.due("31", there(31), 0);
        Edges.due("32", there(32), 1);
    }

    static void p02_feed_byte126IsTaken_127IsLeftOut() {
        Edges.due("126", there(126), 1);
        Edges.due("127", there(127), 0);
    }

    static void p02_feed_byte0And128To255AreLeftOut() {
        Edges.due("0", there(0), 0);
        for (int sign = 128; sign < 256; sign++) {
            Edges.due("" + sign, there(sign), 0);
        }
    }

    static void p02_feed_allOf32To126AreTaken() {
        for (int sign = 32; sign <= 126; sign++) {
            Edges.due("" + sign, there(sign), 1);
        }
    }

    static void p02_feed_whatIsLeftOutLeavesNoGap() {
        SamePassers x = new SamePassers();
        // t 0 a 127 k 255 e 9, then ; as the lowest byte of c.
        Edges.due("feed", x.feed(0x7400617f6bff6509L, 0, 0x3b), 5);
        Edges.due("takes", x.takes(), 0);
        Edges.due("lines", x.count(6), 1);
    }

    static void p02_feed_ofAllBitsSetIsNothing() {
        Edges.due("feed", new SamePassers().feed(-1, Long.MIN_VALUE, -1), 0);
    }

    // "what is beyond 1,000 .. : how many there are"

    static void p02_feed_ofNothingAnswersHowManyThereAre() {
        SamePassers x = new SamePassers();
        Edges.due("nothing there", x.feed(0, 0, 0), 0);
        Check.feed(x, "take;");
        Edges.due("five there", x.feed(0, 0, 0), 5);
        Edges.due("a full one", withBlanks(1000).feed(0, 0, 0), 1000);
    }

    static void p02_feed_the1000thSignIsTaken() {
        SamePassers x = withBlanks(999);
        Edges.due("feed", x.feed(first('A'), 0, 0), 1000);
        Edges.due("takes", x.takes(), 1 + 16 * 999);
    }

    static void p02_feed_the1001stSignIsLeftOut() {
        SamePassers x = withBlanks(1000);
        Edges.due("feed", x.feed(first('A'), 0, 0), 1000);
        Edges.due("count(10)", x.count(10), 1000);
        Edges.due("takes", x.takes(), 0);
    }

    static void p02_feed_aCallAcrossTheEndKeepsItsFirstSigns() {
        SamePassers x = withBlanks(984);
        Edges.due("feed of 24 for 16 places", Check.feed(x, " ".repeat(15) + "ABBBBBBBB"), 1000);
        Edges.due("takes", x.takes(), 1 + 16 * 999);
        SamePassers y = withBlanks(984);
        Edges.due("feed of 24 for 16 places", Check.feed(y, " ".repeat(16) + "AAAAAAAA"), 1000);
        Edges.due("takes", y.takes(), 0);
    }

    static void p02_feed_aSignLeftOutTakesNoPlaceAtTheEnd() {
        SamePassers x = withBlanks(999);
        Edges.due("feed", x.feed(0x007f09ff00000041L, 0, 0), 1000);
        Edges.due("takes", x.takes(), 1 + 16 * 999);
    }

    static void p02_feed_aFullTapeStaysAsItWas() {
        SamePassers x = new SamePassers();
        Check.feed(x, GROUND + "\n".repeat(1000 - GROUND.length()));
        for (int i = 0; i < 3; i++) {
            Edges.due("feed beyond", Check.feed(x, "street 4 lanes 1 frame 0"), 1000);
        }
        Edges.due("street", x.street(), 0);
        Edges.due("cells", x.count(0), 9);
    }

    static void p02_feed_1000SignsFitAgainOnceTheTapeWasRead() {
        SamePassers x = withBlanks(1000);
        x.takes();
        Edges.due("one", x.feed(first(' '), 0, 0), 1);
        Edges.due("up to the end", Check.feed(x, " ".repeat(1200)), 1000);
        x.street();
        Edges.due("one", x.feed(first(' '), 0, 0), 1);
    }

    static void p02_feed_changesNothingButTheTape() {
        Edges.leavesAll("feed of signs left out", x -> x.feed(0, -1, 0x1f7f), 19);
        SamePassers fed = Edges.rich();
        fed.takes();
        SamePassers unfed = Edges.rich();
        unfed.takes();
        Check.feed(fed, "street 4");
        Check.feed(unfed, "xxxxxxxx");
        Edges.sameDue("eight signs are eight signs", fed, unfed);
    }

    // "what reads it takes it: it is empty then"

    static void p03_street_wellReadEmptiesTheTape() {
        SamePassers x = Edges.told(GROUND);
        Edges.due("count(10)", x.count(10), 0);
        Edges.due("feed", x.feed(BLANKS, 0, 0), 8);
    }

    static void p03_street_withAFaultEmptiesTheTape() {
        SamePassers x = new SamePassers();
        Edges.due("street", Check.street(x, "street 9 x and much more"), 1 + 16 * 9);
        Edges.due("count(10)", x.count(10), 0);
        Edges.due("street of what comes then", Check.street(x, GROUND), 0);
    }

    static void p03_street_ofAnEmptyTapeIsFault1At0() {
        SamePassers x = new SamePassers();
        Edges.due("street", x.street(), 1);
        Edges.due("street again", x.street(), 1);
        Edges.leavesAll("street of an empty TAPE", y -> y.takes(), SamePassers::street, 1);
    }

    static void p04_takes_wellReadEmptiesTheTape() {
        SamePassers x = new SamePassers();
        Edges.due("takes", Check.takes(x, "take;"), 0);
        Edges.due("count(10)", x.count(10), 0);
    }

    static void p04_takes_withAFaultEmptiesTheTape() {
        SamePassers x = new SamePassers();
        Edges.due("takes", Check.takes(x, "take take;"), 1 + 16 * 5);
        Edges.due("count(10)", x.count(10), 0);
        Edges.due("takes of what comes then", Check.takes(x, "take;"), 0);
    }

    static void p04_takes_ofAnEmptyTapeAreNoLines() {
        SamePassers x = new SamePassers();
        Edges.due("takes", x.takes(), 0);
        Check.takes(x, "take;");
        Edges.due("lines", x.count(6), 1);
        Edges.due("takes of nothing", x.takes(), 0);
        Edges.due("lines", x.count(6), 0);
    }

    // "TOKENS, each as long as can be, blanks (10, 32) between where one likes"

    static void p03_token_isAsLongAsCanBe() {
        Edges.fault("", "streets 4", 1);
        Edges.fault("street 4 ", "lan es", 1);
        Edges.fault("street 4", "lanesx 1", 1);
        Edges.fault("street 4 lanes 1 frame 0 to 0 sharp 0;", "sayww at 5;", 1);
        Edges.fault("street ", "400 lanes", 4);
        Edges.fault("street 4 ", "0 lanes", 1);
    }

    static void p03_token_blanksMayStandBetweenAll() {
        Edges.well(" \n street \n 4 \n lanes \n 1 \n frame \n 0 \n to \n 0 \n sharp \n 0 \n ; \n ");
        Edges.well("street\n4\nlanes\n1\nframe\n0\nto\n0\nsharp\n0\n;quick\n(\n1\n)\n<\n2\n;\n");
    }

    static void p03_token_noBlanksNeedStandAtNumbersAndSigns() {
        Edges.well("street4lanes1frame0to0sharp0;say ww at0;round0;quick(1)+2*(tempo)-3<4and(5)=6;odd not(kind)or passes;");
    }

    // "WORDS (letters a .. z, 8 at most)"

    static void p03_token_aWordOf8LettersIsOne() {
        Edges.well(GROUND + "say abcdefgh at 5;");
        Edges.well(GROUND + "say zzzzzzzz at 5;say zzzzzzz at 5;");
        Edges.well(GROUND + "say a at 5;say z at 5;");
    }

    static void p03_token_aWordOf9LettersIsNoneAtItsFirstSign() {
        Edges.fault(GROUND + "say ", "abcdefghi at 5;", 1);
        Edges.fault(GROUND, "walkerwalker aa", 1);
        Edges.fault("", "a".repeat(1000), 1);
        Edges.fault("", "streetxxx", 1);
    }

    // "NUMBERS (1 to 4 digits; a letter may stand right behind)"

    static void p03_token_aNumberOf4DigitsIsOne() {
        Edges.well("street 0004 lanes 0001 frame 0000 to 0003 sharp 0001;");
        Edges.fault("street ", "9999", 4);
        Edges.well(GROUND + "quick 9999;");
        Edges.well(GROUND + "quick 0;");
    }

    static void p03_token_aNumberOf5DigitsIsNoneAtItsFirstSign() {
        Edges.fault("street ", "00004 lanes", 1);
        Edges.fault("street ", "10000", 1);
        Edges.fault(GROUND + "quick ", "10000;", 1);
        Edges.fault("street ", "4".repeat(993), 1);
    }

    static void p03_token_aLetterMayStandRightBehindANumber() {
        Edges.well("street 9lanes 2frame 0to 5sharp 1;");
        Edges.well(GROUND + "quick 5and 6or 7;");
        Edges.fault(GROUND + "quick 5", "x;", 1);
    }

    // "the signs ( ) < = + - * ;  All else .. is none"

    static void p03_token_onlyFiveSignsStandBetweenParts() {
        for (char sign = 33; sign <= 126; sign++) {
            if ("<=+-*".indexOf(sign) >= 0) {
                Edges.well(GROUND + "quick 1 " + sign + " 2;");
            } else if (sign == ';') {
                Edges.fault(GROUND + "quick 1 ; ", "2;", 1);
            } else {
                Edges.fault(GROUND + "quick 1 ", sign + " 2;", 1);
            }
        }
    }

    static void p03_token_capitalsAndOtherSignsAreNone() {
        Edges.fault("", "Street 9", 1);
        Edges.fault(GROUND + "say ", "Ww at 5;", 1);
        Edges.fault(GROUND + "say w", "W at 5;", 1);
        for (char sign = 33; sign <= 126; sign++) {
            boolean letter = sign >= 'a' && sign <= 'z';
            if (!letter) {
                Edges.fault(GROUND + "say ", sign + " at 5;", 1);
            }
        }
    }

    static void p03_token_theSignsNextToTheLettersAndDigitsAreNone() {
        // ` and { stand next to a and z, / and : next to 0 and 9.
        Edges.fault(GROUND + "say a", "` at 5;", 1);
        Edges.fault(GROUND + "say z", "{ at 5;", 1);
        Edges.fault(GROUND + "say a at 0", "/;", 1);
        Edges.fault(GROUND + "say a at 9", ":;", 1);
    }
}
