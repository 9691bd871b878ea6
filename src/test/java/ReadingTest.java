/** Promises 1 to 4 and 6: a new object, the TAPE, STREETS, TAKES and their FAULTS. */
public final class ReadingTest {
    private static final Check check = new Check("ReadingTest");
    private static final String GROUND = "street 9 lanes 2 frame 0 to 5 sharp 1;";
    private static final String BASE = GROUND + "say ww at 5;walker aa plain lane 0 from 0 left pace 1 lag 0;";

    public static void main(String[] args) {
        promise1NewObject();
        promise2Feed();
        promise2FeedBeyond();
        promise3Street();
        promise3GroundFaults();
        promise3LineFaults();
        promise3NameFaults();
        promise3TooMany();
        promise3Laws();
        promise3LawFaults();
        promise3Tokens();
        promise3FaultKeepsAll();
        promise3BeginsAnew();
        promise4Takes();
        promise4Faults();
        promise6Tenth();
        check.end();
    }

    /** The FAULT of a STREET on a new object: of which kind, at which text's last place. */
    private static void fault(String text, int kind, int place) {
        check.due("street of " + text, Check.street(new SamePassers(), text), kind + 16L * place);
    }

    /** The FAULT lies at the start of what follows the first text. */
    private static void faultAt(String before, String from, int kind) {
        fault(before + from, kind, before.length());
    }

    private static void well(String text) {
        fault(text, 0, 0);
    }

    private static void promise1NewObject() {
        SamePassers x = new SamePassers();
        int[] due = {4, 1, 0, 0, 0, 0, 0, 0, 0, 0, 0, 0};
        for (int what = 0; what < due.length; what++) {
            check.due("new: count(" + what + ")", x.count(what), due[what]);
        }
        check.due("new: good()", x.good(), true);
        check.due("new: walker(0, 0)", x.walker(0, 0), -1);
        check.due("new: row(0, 600)", x.row(0, 600), 0);
        check.due("new: row(1, 600)", x.row(1, 600), -1);
        check.due("new: whose(3, 0, 0)", x.whose(3, 0, 0), 0);
        check.due("new: whose(4, 0, 0)", x.whose(4, 0, 0), -1);
        check.due("new: mark(0, true)", x.mark(0, true), false);
        // Round behind the camera takes 20 without a round told: from 3 to 0 in 1 + 20.
        check.due("new: sight", x.sight(0, 3, true), true);
        check.due("new: sight", x.sight(20, 0, true), true);
        check.due("new: hired", x.hired(-1), 2);
        check.due("new: sight", x.sight(21, 0, true), true);
        check.due("new: hired", x.hired(0), 2);
    }

    private static void promise2Feed() {
        SamePassers x = new SamePassers();
        check.due("feed of nothing", x.feed(0, 0, 0), 0);
        check.due("feed of signs left out", x.feed(0x091f7f80ff0b0d00L, -1L, 0), 0);
        check.due("feed of the edges", x.feed(0x0a207e1f7f000000L, 0, 0), 3);
        check.due("feed goes on", x.feed(0x6161616161616161L, 0x6161616161616161L, 0x6161616161616161L), 27);
        check.due("count(10)", x.count(10), 27);
        // Line feed, blank, and then a sign that is no token.
        check.due("street", x.street(), 1 + 16 * 2);
        check.due("count(10) of a TAPE that was read", x.count(10), 0);
        // The highest byte comes first, and a before b before c.
        SamePassers y = new SamePassers();
        y.feed(0x7374726565742000L, 0x3920L, 0x6c6100000000L);
        check.due("street of street 9 la", y.street(), 1 + 16 * 9);
    }

    private static void promise2FeedBeyond() {
        SamePassers x = new SamePassers();
        long blanks = 0x2020202020202020L;
        for (int i = 1; i <= 41; i++) {
            check.due("feed of blanks", x.feed(blanks, blanks, blanks), 24 * i);
        }
        check.due("feed up to the end", x.feed(blanks, blanks, blanks), 1000);
        check.due("feed beyond", x.feed(blanks, 0, 0), 1000);
        check.due("street of 1000 blanks", x.street(), 1 + 16 * 1000);
        check.due("feed after", x.feed(blanks, 0, 0), 8);
        check.due("takes of blanks", x.takes(), 0);
        SamePassers y = new SamePassers();
        StringBuilder text = new StringBuilder(BASE);
        while (text.length() < 999) {
            text.append(' ');
        }
        Check.feed(y, text + ";;");
        check.due("street with its last sign wrong", y.street(), 1 + 16 * 999);
    }

    private static void promise3Street() {
        SamePassers x = check.told(Check.STREET);
        int[] due = {10, 2, 2, 4, 2, 0, 0, 0, 0, 0, 0, 0};
        for (int what = 0; what < due.length; what++) {
            check.due("count(" + what + ")", x.count(what), due[what]);
        }
        well("street 4 lanes 1 frame 0 to 0 sharp 0;");
        well("street 40 lanes 4 frame 39 to 39 sharp 4;");
        well("street40lanes4frame39to39sharp4;");
        well("\n street\n0040 lanes 04 frame 0 to 39 sharp 4 ; \n");
        well(BASE + "walker bb stray lane 1 from 8 right pace 9 lag 99 on ww;must bb ww 8;round 0;");
        well(BASE + "say tempo at 0;say nth at 600;walker kind dog lane 0 from 0 right pace 1 lag 0;must kind tempo 0;");
        well(BASE + "round 99;quick tempo;odd passes;");
        well(BASE + "must aa ww 0;say wv at 6;must aa wv 0;");
    }

    private static void promise3GroundFaults() {
        fault("", 1, 0);
        fault("   ", 1, 3);
        fault("street", 1, 6);
        fault("street ", 1, 7);
        faultAt("", "streets 4", 1);
        faultAt("", "say ww at 5;", 1);
        faultAt("", ";", 1);
        faultAt("street ", "x", 1);
        faultAt("street ", "3", 4);
        faultAt("street ", "41", 4);
        faultAt("street ", "10000", 1);
        faultAt("street ", "00004", 1);
        faultAt("street 4 ", "frame", 1);
        faultAt("street 4 lanes ", "0", 4);
        faultAt("street 4 lanes ", "5", 4);
        faultAt("street 4 lanes 4 frame ", "4", 4);
        faultAt("street 4 lanes 4 frame 2 ", "2", 1);
        faultAt("street 4 lanes 4 frame 2 to ", "1", 4);
        faultAt("street 4 lanes 4 frame 2 to ", "4", 4);
        faultAt("street 4 lanes 3 frame 2 to 2 sharp ", "4", 4);
        faultAt("street 4 lanes 3 frame 2 to 2 sharp 3 ", "say", 1);
        faultAt(GROUND, "street", 1);
        faultAt(GROUND, "aa", 1);
        faultAt(GROUND, "7", 1);
        faultAt(GROUND, ";", 1);
        faultAt(GROUND, "take;", 1);
        faultAt(GROUND, "plain", 1);
    }

    private static void promise3LineFaults() {
        faultAt(BASE + "say xx ", "6", 1);
        faultAt(BASE + "say xx at ", "601", 4);
        faultAt(BASE + "say xx at 600", "", 1);
        faultAt(BASE + "say xx at 600 ", "walker", 1);
        String walker = BASE + "walker bb ";
        faultAt(walker, "cat", 1);
        faultAt(walker, "left", 1);
        faultAt(walker + "dog ", "lanes", 1);
        faultAt(walker + "dog lane ", "2", 4);
        faultAt(walker + "dog lane 1 from ", "9", 4);
        faultAt(walker + "dog lane 1 from 8 ", "pace", 1);
        faultAt(walker + "dog lane 1 from 8 right pace ", "0", 4);
        faultAt(walker + "dog lane 1 from 8 right pace ", "10", 4);
        faultAt(walker + "dog lane 1 from 8 right pace 9 lag ", "100", 4);
        faultAt(walker + "dog lane 1 from 8 right pace 9 lag 99 ", "at", 1);
        faultAt(walker + "dog lane 1 from 8 right pace 9 lag 99 on ", ";", 1);
        faultAt(walker + "dog lane 1 from 8 right pace 9 lag 99 on ww ", "on", 1);
        faultAt(BASE + "must aa ww ", "9", 4);
        faultAt(BASE + "must aa ww ", ";", 1);
        faultAt(BASE + "round ", "100", 4);
        faultAt(BASE + "round ", "-", 1);
        faultAt(BASE + "round 5;", "round", 3);
        faultAt(BASE + "round 20;", "round 20;", 3);
        faultAt(BASE + "quick 1;", "quick", 3);
        faultAt(BASE + "odd 1;", "odd", 3);
    }

    private static void promise3NameFaults() {
        faultAt(BASE + "say ", "ww", 3);
        faultAt(BASE + "say ", "aa", 3);
        faultAt(BASE + "walker ", "ww", 3);
        faultAt(BASE + "walker ", "aa", 3);
        faultAt(BASE + "walker bb dog lane 1 from 1 left pace 1 lag 1 on ", "aa", 2);
        faultAt(BASE + "walker bb dog lane 1 from 1 left pace 1 lag 1 on ", "bb", 2);
        faultAt(BASE + "walker bb dog lane 1 from 1 left pace 1 lag 1 on ", "xx", 2);
        faultAt(BASE + "must ", "ww", 2);
        faultAt(BASE + "must ", "xx", 2);
        faultAt(BASE + "must aa ", "aa", 2);
        faultAt(BASE + "must aa ", "xx", 2);
        faultAt(BASE + "must aa ww 1;must aa ", "ww", 3);
        String[] reserved = {"street", "lanes", "frame", "to", "sharp", "say", "at", "walker", "lane", "from", "pace",
            "lag", "on", "must", "round", "quick", "odd", "start", "turn", "late", "take", "left", "right", "plain",
            "pram", "dog", "stray", "not", "and", "or"};
        for (String word : reserved) {
            faultAt(BASE + "say ", word, 1);
            faultAt(BASE + "walker ", word, 1);
            faultAt(BASE + "must ", word, 1);
            faultAt(BASE + "must aa ", word, 1);
            well(BASE + "say x" + word.charAt(0) + " at 5;");
        }
        for (String word : new String[] {"tempo", "nth", "kind", "passes", "a", "abcdefgh", "tos", "o", "zz", "az", "za"}) {
            well(BASE + "say " + word + " at 5;");
        }
        faultAt(BASE + "say ", "abcdefghi", 1);
        faultAt(BASE + "say ", "5", 1);
    }

    private static void promise3TooMany() {
        StringBuilder words = new StringBuilder(GROUND);
        for (char c = 'a'; c <= 'f'; c++) {
            words.append("say w").append(c).append(" at 5;");
        }
        well(words.toString());
        faultAt(words.toString(), "say", 5);
        faultAt(words.toString(), "say wa", 5);
        StringBuilder walkers = new StringBuilder(words);
        for (char c = 'a'; c <= 'h'; c++) {
            walkers.append("walker p").append(c).append(" dog lane 0 from 0 left pace 1 lag 0;");
        }
        well(walkers.toString());
        faultAt(walkers.toString(), "walker", 5);
        StringBuilder musts = new StringBuilder(walkers);
        for (char c = 'a'; c <= 'h'; c++) {
            musts.append("must p").append(c).append(" wf 0;");
        }
        well(musts.toString());
        faultAt(musts.toString(), "must pa wf", 5);
    }

    private static int known(String odd) {
        SamePassers x = check.told("street 4 lanes 1 frame 1 to 2 sharp 1;walker aa dog lane 0 from 0 right pace 9 lag 0;odd "
            + odd + ";");
        return x.walker(0, 9);
    }

    private static int tempo(String quick) {
        return check.told(BASE + "walker bb plain lane 1 from 0 left pace 7 lag 0;quick " + quick + ";").walker(1, 4);
    }

    private static void promise3Laws() {
        check.due("tempo 7", tempo("tempo"), 7);
        check.due("tempo nth", tempo("tempo + nth"), 7);
        check.due("1 at least", tempo("nth"), 1);
        check.due("1 at least", tempo("0 - 5"), 1);
        check.due("99 at most", tempo("100"), 99);
        check.due("wraps below", tempo("9999 * 9999 * 9999"), wrapped(9999 * 9999 * 9999));
        check.due("wraps above", tempo("9999*9999*22"), wrapped(9999 * 9999 * 22));
        check.due("* before +", tempo("2 + 3 * 4"), 14);
        check.due("- from the left", tempo("20 - 5 - 3"), 12);
        check.due("( )", tempo("20 - ( 5 - 3 )"), 18);
        check.due("not binds its PART", tempo("not 0 * 5 + 2"), 7);
        check.due("not of what is not 0", tempo("5 + not 7"), 5);
        check.due("<", tempo("3 + (2 < 3) * 4"), 7);
        check.due("< of equals", tempo("3 + (3 < 3) * 4"), 3);
        check.due("=", tempo("3 + (3 = 3) * 4"), 7);
        check.due("sums are compared", tempo("3 + (1 + 2 = 4 - 1) * 4"), 7);
        check.due("and, or from the left", tempo("2 + 5 * (1 or 1 and 0)"), 2);
        check.due("or behind and", tempo("2 + 5 * (0 and 0 or 1)"), 7);
        check.due("and is 1 or 0", tempo("3 + (5 and 7)"), 4);
        check.due("or is 1 or 0", tempo("3 + (0 or 7)"), 4);
        check.due("or of the first alone", tempo("3 + (7 or 0)"), 4);
        check.due("or of 1", tempo("3 + (1 or 0)"), 4);
        check.due("or of neither", tempo("3 + (0 or 0)"), 3);
        check.due("and of 1", tempo("3 + (1 and 1)"), 4);
        check.due("and of the first alone", tempo("3 + (1 and 0)"), 3);
        check.due("and of the second alone", tempo("3 + (0 and 1)"), 3);
        check.due("= of others", tempo("3 + (2 = 3)"), 3);
        check.due("and of tests", tempo("4 < 5 and 6 = 6"), 1);
        check.due("a number with a letter behind", tempo("5and 7 or 0"), 1);
        check.due("4 within", tempo("((((42))))"), 42);
        check.due("known 10 at most", known("11"), 10);
        check.due("known 0 at least", known("0 - 1"), 0);
        check.due("known by kind", known("kind + 3"), 5);
        // Steps 0 to 66 of 0 1 2 3 3 2 1 0 over and over: 17 spans in cells 1 and 2.
        check.due("known by passes", known("passes - 12"), 5);
    }

    private static int wrapped(int value) {
        return value < 1 ? 1 : value > 99 ? 99 : value;
    }

    private static void promise3LawFaults() {
        String quick = BASE + "quick ";
        faultAt(quick, ";", 1);
        faultAt(quick, "pace", 1);
        faultAt(quick, "passes", 1);
        faultAt(quick, "kind", 1);
        faultAt(quick, "aa", 1);
        faultAt(quick, "- 1", 1);
        faultAt(quick, ")", 1);
        faultAt(BASE + "odd ", "tempo", 1);
        faultAt(BASE + "odd ", "nth", 1);
        faultAt(quick + "1 < 2 ", "< 3", 1);
        faultAt(quick + "1 = 2 ", "= 3", 1);
        faultAt(quick + "1 < 2 ", "= 3", 1);
        well(quick + "1 < 2 and 2 < 3 or 3 = 3;");
        faultAt(quick + "1 ", "2", 1);
        faultAt(quick + "1 ", "not 2", 1);
        faultAt(quick + "1 + ", "* 2", 1);
        faultAt(quick + "( 1 ", ";", 1);
        faultAt(quick + "1 ", ")", 1);
        faultAt(quick + "( 1 ) ", ")", 1);
        faultAt(quick + "( ", ")", 1);
        faultAt(quick + "1 and ", "and", 1);
        faultAt(quick + "1 ", "", 1);
        faultAt(quick + "not not not not not ", "1", 5);
        faultAt(quick + "not not not not not ", "not", 5);
        faultAt(quick + "not not not not not ", "(", 5);
        faultAt(quick + "not not not not not ", "tempo", 5);
        faultAt(quick + "not not not not not ", "kind", 1);
        faultAt(quick + "not not not not not ", ";", 1);
        faultAt(quick + "( not ( not ( ", "1", 5);
        well(quick + "( not ( not 1 ) );");
        well(quick + "not not not not 1 + not not not not 1 * ((((tempo)))) - ( ( not not 1 ) );");
        faultAt(quick + "((((1 + not ", "1", 5);
    }

    private static void promise3Tokens() {
        faultAt("", "Street 4", 1);
        faultAt("street 4 ", "lanesx", 1);
        faultAt("street 4 lanes", "5x5", 4);
        faultAt("street 4 lanes4", "x5", 1);
        faultAt(GROUND + "say", "_ww at 5;", 1);
        faultAt(GROUND + "say ww", ", at 5", 1);
        faultAt(GROUND + "say ww at ", "12345", 1);
        faultAt(GROUND + "say ww at 5;", "walkerwalker", 1);
        faultAt(GROUND + "say ww at 5", "x;", 1);
        well(GROUND + "say ww at5;");
    }

    private static void promise3FaultKeepsAll() {
        SamePassers x = check.told(Check.STREET);
        Check.takes(x, "take;turn nun;");
        x.late(0, 4);
        x.take();
        x.tell(1, 2);
        x.sight(1, 2, true);
        x.mark(2, false);
        check.due("street of another with a FAULT", Check.street(x, BASE + "say ww at 5;"), 3 + 16L * (BASE.length() + 4));
        int[] due = {10, 2, 2, 4, 2, 1, 2, 1, 1, 2, 0, 0};
        for (int what = 0; what < due.length; what++) {
            check.due("kept: count(" + what + ")", x.count(what), due[what]);
        }
        check.due("kept: where", x.where(0, 40), 8);
        check.due("kept: mark", x.mark(2, true), true);
        check.due("kept: takes with a FAULT", Check.takes(x, "take;take;take"), 1 + 16 * 14);
        check.due("kept: lines", x.count(6), 2);
    }

    private static void promise3BeginsAnew() {
        SamePassers x = check.told(Check.STREET);
        Check.takes(x, "take;");
        x.start(0, 5);
        x.turn(1);
        x.take();
        x.late(0, 4);
        x.tell(1, 2);
        x.sight(1, 2, true);
        x.mark(0, false);
        check.due("street again", Check.street(x, Check.STREET), 0);
        for (int what = 5; what <= 11; what++) {
            check.due("anew: count(" + what + ")", x.count(what), 0);
        }
        check.due("anew: start", x.walker(0, 2), 0);
        check.due("anew: side", x.walker(1, 3), 0);
        check.due("anew: late", x.walker(0, 7), 0);
        check.due("anew: undo", x.undo(), false);
        check.due("anew: mark", x.mark(0, true), false);
        check.due("street of less", Check.street(x, GROUND), 0);
        check.due("anew: walkers", x.count(3), 0);
        check.due("anew: round as if none was told", sightsAfterRound(x), 1);
    }

    // From cell 8 to 0 are 1 cell and 20 tenths round behind the camera.
    private static int sightsAfterRound(SamePassers x) {
        x.sight(0, 8, true);
        x.sight(21, 0, true);
        return x.hired(-1);
    }

    private static void promise4Takes() {
        SamePassers x = check.told(Check.STREET);
        check.due("takes of nothing", Check.takes(x, " "), 0);
        check.due("takes", Check.takes(x, "start nun 9;turn cart;late rex 99;late man 0;take;"), 0);
        check.due("lines", x.count(6), 5);
        check.due("takes do nothing by hand", x.count(5), 0);
        check.due("takes of nothing", Check.takes(x, ""), 0);
        check.due("lines", x.count(6), 0);
        StringBuilder thirty = new StringBuilder();
        for (int i = 0; i < 30; i++) {
            thirty.append("take;");
        }
        check.due("takes of 30 lines", Check.takes(x, thirty.toString()), 0);
        check.due("judged(2)", x.judged(2), 30);
        check.due("takes of 31 lines", Check.takes(x, thirty + "take;"), 5 + 16 * 150);
        check.due("takes of 31 lines", Check.takes(x, thirty + "start xx 77"), 5 + 16 * 150);
        check.due("takes of 31 lines, the last none", Check.takes(x, thirty + "say"), 1 + 16 * 150);
        check.due("lines", x.count(6), 30);
    }

    private static void promise4Faults() {
        SamePassers x = check.told(Check.STREET);
        String[] before = {"start ", "start ", "start ", "start nun ", "start nun ", "start nun 9 ", "turn ", "turn nun ",
            "late ", "late nun ", "late nun ", "take ", "", "take;", "", "turn "};
        String[] from = {"go", "xx", "turn", "10", ";", "9", "end", "0;", "end", "100", "take", "nun;", "street", "must", "say", ""};
        int[] kinds = {2, 2, 1, 4, 1, 1, 2, 1, 2, 4, 1, 1, 1, 1, 1, 1};
        for (int i = 0; i < before.length; i++) {
            String text = before[i] + from[i];
            check.due("takes of " + text, Check.takes(x, text), kinds[i] + 16L * before[i].length());
        }
        check.due("takes on a new object", Check.takes(new SamePassers(), "turn aa;"), 2 + 16 * 5);
        check.due("takes on a new object", Check.takes(new SamePassers(), "take;"), 0);
    }

    private static void promise6Tenth() {
        SamePassers x = check.told(Check.STREET);
        check.due("tenth(0)", x.tenth(0), 10);
        check.due("tenth(1)", x.tenth(1), 40);
        check.due("tenth(2)", x.tenth(2), -1);
        check.due("tenth(-1)", x.tenth(-1), -1);
        check.due("tenth(MIN)", x.tenth(Integer.MIN_VALUE), -1);
        check.due("tenth(0) of a new one", new SamePassers().tenth(0), -1);
    }
}
