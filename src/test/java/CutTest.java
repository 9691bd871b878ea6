/** Promises 20 to 23, 26, 27, 30: lags, full streets, cuts, the best takes, changes, the other side, notes. */
public final class CutTest {
    private static final Check check = new Check("CutTest");
    /** On the word at 20, with pace p, he has gone 20 / (p + nth) cells. */
    private static final String QUICKENED = "street 20 lanes 3 frame 3 to 12 sharp 1;say go at 20;say end at 30;"
        + "walker aa pram lane 0 from 0 right pace 2 lag 0;walker bb pram lane 1 from 0 right pace 4 lag 0;"
        + "walker cc pram lane 2 from 12 left pace 5 lag 0;quick tempo + nth;";

    public static void main(String[] args) {
        promise20Lags();
        promise20LagsOthers();
        promise20LagsOfMany();
        promise21Full();
        promise22Jump();
        promise23Best();
        promise26Change();
        promise27Other();
        promise30Notes();
        check.end();
    }

    private static void lags(SamePassers x, int bits, int... due) {
        for (int what = 0; what < due.length; what++) {
            check.due("lags(" + bits + ", " + what + ")", x.lags(bits, what), due[what]);
        }
        check.due("lags(" + bits + ", " + due.length + ")", x.lags(bits, due.length), -1);
    }

    private static void promise20Lags() {
        SamePassers x = check.told(Check.STREET);
        lags(x, 1, 0, 0);
        // The pram's cue is at 10: at cell 5 on 40 after 4 steps of 5, with a lag of 6 to 10.
        lags(x, 2, 6, 6);
        lags(x, 3, -1);
        lags(x, 12, -1);
        x.late(1, 50);
        lags(x, 2, 6, 6);
        x.start(1, 8);
        lags(x, 2, 11, 11);
        x.start(1, 5);
        lags(x, 2, -1);
        SamePassers twenty = check.told("street 40 lanes 1 frame 0 to 39 sharp 0;say go at 60;"
            + "walker ann pram lane 0 from 0 right pace 2 lag 99;must ann go 19;");
        lags(twenty, 1, 21, 21);
        SamePassers last = check.told("street 40 lanes 1 frame 0 to 39 sharp 0;say go at 60;"
            + "walker ann pram lane 0 from 0 right pace 1 lag 0;must ann go 37;");
        lags(last, 1, 23, 23);
        SamePassers beyond = check.told("street 40 lanes 1 frame 0 to 39 sharp 0;say go at 60;"
            + "walker ann pram lane 0 from 0 right pace 1 lag 0;must ann go 36;");
        lags(beyond, 1, -1);
    }

    private static void promise20LagsOthers() {
        SamePassers x = check.told(Check.STREET);
        for (int bits : new int[] {0, 16, 17, -1, Integer.MIN_VALUE}) {
            check.due("lags(" + bits + ", 0)", x.lags(bits, 0), -1);
        }
        check.due("lags(1, -1)", x.lags(1, -1), -1);
        check.due("lags(1, 2)", x.lags(1, 2), -1);
        StringBuilder five = new StringBuilder("street 40 lanes 1 frame 0 to 39 sharp 0;");
        for (int i = 0; i < 5; i++) {
            five.append("walker p").append((char) ('a' + i)).append(" pram lane 0 from ").append(i).append(" right pace 1 lag 0;");
        }
        SamePassers y = check.told(five.toString());
        check.due("lags of four", y.lags(15, 0), 0);
        check.due("lags of four others", y.lags(30, 0), 0);
        check.due("lags of five", y.lags(31, 0), -1);
    }

    private static void promise20LagsOfMany() {
        String ground = "street 12 lanes 2 frame 0 to 11 sharp 0;say go at 9;";
        SamePassers x = check.told(ground + "walker aa pram lane 0 from 0 right pace 1 lag 0;"
            + "walker bb pram lane 0 from 3 right pace 2 lag 0;");
        // bb is at the last cell, 11, till 17, and gone at 18: aa may come there then, and not before.
        lags(x, 3, 7, 7, 0);
        SamePassers y = check.told(ground + "walker aa pram lane 0 from 0 right pace 1 lag 0;"
            + "walker bb pram lane 0 from 3 right pace 2 lag 0;must bb go 7;");
        lags(y, 3, 7, 7, 0);
        SamePassers z = check.told(ground + "walker aa pram lane 0 from 0 right pace 1 lag 0;"
            + "walker bb pram lane 0 from 3 right pace 2 lag 0;must bb go 6;");
        lags(z, 3, 11, 9, 2);
        SamePassers lane = check.told(ground + "walker aa pram lane 0 from 0 right pace 1 lag 0;"
            + "walker bb pram lane 1 from 3 right pace 2 lag 7;");
        lags(lane, 3, 0, 0, 0);
        // Two who meet in one cell do so no more if one waits a tenth: of equal ones the first row.
        SamePassers meet = check.told("street 40 lanes 1 frame 0 to 11 sharp 0;"
            + "walker aa pram lane 0 from 0 right pace 1 lag 0;walker bb pram lane 0 from 2 left pace 1 lag 0;");
        lags(meet, 3, 1, 0, 1);
        SamePassers never = check.told(ground + "say far at 600;walker aa pram lane 0 from 0 right pace 1 lag 0;"
            + "walker bb pram lane 0 from 3 right pace 2 lag 0 on far;walker cc pram lane 1 from 3 right pace 2 lag 0;");
        lags(never, 3, -1);
        lags(never, 7, -1);
        lags(never, 5, 0, 0, 0);
        promise20LagsAtTheEnd();
        SamePassers cross = check.told("street 40 lanes 1 frame 0 to 11 sharp 0;"
            + "walker aa pram lane 0 from 0 right pace 1 lag 0;walker bb pram lane 0 from 3 left pace 1 lag 0;");
        lags(cross, 3, 0, 0, 0);
    }

    // aa comes to bb's cell at 599 + his lag, bb leaves it at 600 + his own.
    private static void promise20LagsAtTheEnd() {
        String text = "street 9 lanes 1 frame 0 to 8 sharp 0;say go at %d;say end at 600;"
            + "walker aa pram lane 0 from %d right pace 1 lag 0 on %s;walker bb pram lane 0 from %d right pace 1 lag 0 on %s;";
        lags(check.told(String.format(text, 598, 0, "go", 1, "end")), 3, 2, 2, 0);
        lags(check.told(String.format(text, 599, 0, "go", 1, "end")), 3, 1, 1, 0);
        lags(check.told(String.format(text, 600, 0, "go", 1, "end")), 3, 0, 0, 0);
        lags(check.told(String.format(text, 598, 1, "end", 0, "go")), 3, 2, 0, 2);
        lags(check.told(String.format(text, 599, 1, "end", 0, "go")), 3, 1, 0, 1);
        // A must keeps one of them waiting, and so the other one, too.
        String both = "street 9 lanes 1 frame 0 to 8 sharp 0;say go at 580;say end at 590;"
            + "walker aa pram lane 0 from 0 right pace 1 lag 0 on %s;walker bb pram lane 0 from %d right pace 5 lag 0 on %s;must %s;";
        // bb is at 1 till 590, at 2 till 595, at 3 till 600: aa, 18 late, would come to 3 at 601.
        lags(check.told(String.format(both, "go", 1, "go", "bb end 1")), 3, 24, 18, 6);
    }

    private static void promise21Full() {
        SamePassers x = check.told(Check.STREET);
        int[] due = {0, 8, 11, -1, -1, -1, -1, -1, -1, -1};
        for (int many = 0; many < due.length; many++) {
            check.due("full(" + many + ")", x.full(many), due[many]);
        }
        check.due("full(-1)", x.full(-1), -1);
        SamePassers none = check.told("street 4 lanes 1 frame 0 to 3 sharp 1;walker aa dog lane 0 from 0 right pace 1 lag 0;");
        check.due("full without words", none.full(8), 0);
        check.due("full of others", none.full(9), -1);
        SamePassers equal = check.told("street 4 lanes 1 frame 0 to 3 sharp 0;say ww at 0;"
            + "walker aa dog lane 0 from 0 right pace 1 lag 0;walker bb dog lane 0 from 0 right pace 1 lag 0;"
            + "walker cc dog lane 0 from 0 right pace 1 lag 0;");
        check.due("the least set", equal.full(2), 3);
        check.due("all", equal.full(3), 7);
        check.due("not enough", equal.full(4), -1);
        // More than so many on a word are enough, too: aa and bb on one, bb and cc on the other.
        SamePassers more = check.told("street 9 lanes 1 frame 3 to 5 sharp 0;say ww at 1;say vv at 2;say uu at 3;"
            + "walker aa pram lane 0 from 2 right pace 1 lag 0;walker bb pram lane 0 from 4 right pace 1 lag 0;"
            + "walker cc pram lane 0 from 1 right pace 1 lag 0;");
        check.due("aa alone is seen on each", more.full(1), 1);
        check.due("two on each: 1 aa bb, 2 aa cc, 3 aa cc", more.full(2), 7);
    }

    private static void promise22Jump() {
        SamePassers x = check.told(Check.STREET);
        int[][] due = {{0, 0, 0, 0, 1, 6}, {3, 0, 0, 0, 1, 3}, {1, 0, 0, 0, 1, 6}, {2, 0, 0, 0, 1, 0}, {-1, 0, 0, 0, 1, 15},
            {-1, 0, 0, 60, 0, 0}, {4, 0, 0, 0, 1, -2}, {-2, 0, 0, 0, 1, -2}, {0, -1, 0, 0, 1, -2}, {0, 61, 0, 0, 1, -2},
            {0, 0, -1, 0, 1, -2}, {0, 0, 2, 0, 1, -2}, {0, 0, 0, -1, 1, -2}, {0, 0, 0, 61, 1, -2}, {0, 0, 0, 0, 2, -2}, {-1, 0, 0, 0, -1, -2}};
        for (int[] d : due) {
            check.due("jump" + java.util.Arrays.toString(d), x.jump(d[0], d[1], d[2], d[3], d[4]), d[5]);
        }
        x.late(0, 90);
        check.due("nobody is late", x.jump(0, 0, 0, 0, 1), 6);
        x.start(0, 1);
        check.due("jump from 3 to one unseen", x.jump(0, 0, 0, 0, 1), 6);
        x.start(0, 9);
        // Gone at 5, back at 11: unseen on 10, at cell 5 on 40.
        check.due("jump from behind the camera", x.jump(0, 0, 0, 0, 1), 6);
        SamePassers q = check.told(QUICKENED);
        // On go: 10, 6, 5, 4, 3 (of nth 4), 2; on end: 15 - unseen - 10, 7, 6, 5, 4 ..
        check.due("take 0 to 1", q.jump(0, 0, 0, 1, 0), 4);
        check.due("take 1 to 0", q.jump(0, 1, 0, 0, 0), 4);
        check.due("take 0 to 5", q.jump(0, 0, 0, 5, 0), 10);
        check.due("take 5 to 6", q.jump(0, 5, 0, 6, 0), 0);
        check.due("words of takes", q.jump(0, 1, 1, 4, 0), 7);
        q.take();
        check.due("the take now does not matter", q.jump(0, 0, 0, 1, 0), 4);
        check.due("jump without words", new SamePassers().jump(-1, 0, 0, 0, 0), -2);
    }

    private static void promise23Best() {
        SamePassers x = check.told(Check.STREET);
        check.due("best(0, 0)", x.best(0, 0), 0);
        check.due("best(0, 1)", x.best(0, 1), 0);
        check.due("best(0, 2)", x.best(0, 2), 1);
        for (int[] other : new int[][] {{-1, 0}, {2, 0}, {0, 3}, {0, -1}}) {
            check.due("best of others", x.best(other[0], other[1]), -1);
        }
        // One who is quicker from take to take by so much that only the last two agree.
        SamePassers late = check.told("street 40 lanes 1 frame 0 to 39 sharp 1;say ww at 0;say go at 99;"
            + "walker aa pram lane 0 from 0 right pace 9 lag 0;quick 3 + nth - (10 < nth);");
        check.due("best(1, 0)", late.best(1, 0), 0);
        // 99 / 3, 4, .. 13, 13: 33 24 19 16 14 12 11 9 9 8 7 7.
        check.due("best(1, 1)", late.best(1, 1), 7);
        check.due("best(1, 2)", late.best(1, 2), 8);
        SamePassers end = check.told(QUICKENED);
        int least = end.best(0, 0);
        check.due("best is what jump says", end.jump(-1, end.best(0, 1), 0, end.best(0, 2), 0), least);
        for (int one = 0; one <= 11; one++) {
            for (int other = one + 1; other <= 11; other++) {
                check.due("no less between " + one + " and " + other, end.jump(-1, one, 0, other, 0) >= least, true);
            }
        }
        check.due("best without walkers", check.told("street 4 lanes 1 frame 0 to 3 sharp 1;say ww at 5;").best(0, 2), 1);
        check.due("best without words", new SamePassers().best(0, 0), -1);
    }

    private static void promise26Change() {
        SamePassers x = check.told("street 20 lanes 2 frame 5 to 15 sharp 0;say ww at 0;say vv at 10;"
            + "walker aa dog lane 0 from 5 right pace 1 lag 0;walker bb dog lane 1 from 7 right pace 1 lag 0;"
            + "walker cc plain lane 0 from 5 right pace 1 lag 0;walker dd dog lane 0 from 4 right pace 1 lag 0;"
            + "walker ee dog lane 0 from 6 left pace 1 lag 90;walker ff dog lane 0 from 5 left pace 1 lag 0;");
        // On vv: aa 15, bb 17 (unseen), cc 15, dd 14, ee 6, ff 4 (unseen).
        check.due("change(0, 40)", x.change(0, 40), 16);
        check.due("change(0, 9)", x.change(0, 9), 16);
        check.due("change(0, 8)", x.change(0, 8), 0);
        check.due("change(1, 2)", x.change(1, 2), 32);
        check.due("change(1, 1)", x.change(1, 1), 0);
        check.due("change(2, 40)", x.change(2, 40), 0);
        for (int[] other : new int[][] {{-1, 0}, {6, 0}, {0, -1}, {0, 41}}) {
            check.due("change of others", x.change(other[0], other[1]), -1);
        }
        SamePassers none = check.told("street 9 lanes 1 frame 0 to 8 sharp 0;walker aa dog lane 0 from 0 right pace 1 lag 0;"
            + "walker bb dog lane 0 from 8 right pace 1 lag 0;walker cc pram lane 0 from 8 right pace 1 lag 0;");
        check.due("change without words", none.change(0, 0), 2);
    }

    private static void promise27Other() {
        SamePassers x = check.told(Check.STREET);
        int[][] due = {{0, 0, 0, 7}, {0, 0, 1, 1}, {0, 1, 0, -1}, {0, 1, 1, 1}, {1, 1, 0, 4}, {2, 0, 1, 0}, {3, 1, 0, 3},
            {0, 2, 0, -2}, {0, -1, 0, -2}, {4, 0, 0, -2}, {-1, 0, 0, -2}, {0, 0, 2, -2}, {0, 0, -1, -2}};
        for (int[] d : due) {
            check.due("other(" + d[0] + ", " + d[1] + ", " + d[2] + ")", x.other(d[0], d[1], d[2]), d[3]);
        }
        x.late(0, 5);
        check.due("other of one late, not in the frame", x.other(0, 0, 0), -1);
        check.due("other of one late", x.other(0, 1, 0), 2);
        SamePassers gone = check.told("street 4 lanes 1 frame 0 to 3 sharp 0;say ww at 9;walker aa pram lane 0 from 0 left pace 1 lag 0;");
        check.due("other of one gone", gone.other(0, 0, 0), -1);
        check.due("other lane of one gone", gone.other(0, 0, 1), 0);
    }

    private static void promise30Notes() {
        SamePassers x = check.told(QUICKENED);
        check.due("notes of take 0", x.notes(30), 0);
        x.take();
        // On go: aa 10 then 6, bb 5 then 4, cc 8 then 9: worth 4, 1, 1 in 1, 2, 3 seconds.
        int[] due = {0, 1, 1, 3, 3, 3, 7, 7};
        for (int seconds = 0; seconds < due.length; seconds++) {
            check.due("notes(" + seconds + ")", x.notes(seconds), due[seconds]);
        }
        check.due("notes(30)", x.notes(30), 7);
        check.due("notes(31)", x.notes(31), -1);
        check.due("notes(-1)", x.notes(-1), -1);
        check.due("notes without words", new SamePassers().notes(1), -1);
        x.late(0, 20);
        check.due("nobody is late", x.notes(1), 1);
        SamePassers equal = check.told("street 20 lanes 2 frame 0 to 19 sharp 1;say go at 20;"
            + "walker aa pram lane 1 from 0 right pace 2 lag 0;walker bb pram lane 0 from 0 right pace 2 lag 0;"
            + "walker cc pram lane 0 from 0 right pace 2 lag 0;walker dd pram lane 0 from 0 right pace 2 lag 90;quick tempo + nth;");
        equal.take();
        check.due("of equal ones the least set", equal.notes(1), 2);
        check.due("two for two seconds", equal.notes(2), 6);
        check.due("of equal ones the least set", equal.notes(3), 3);
        check.due("without him who jumps by 0", equal.notes(30), 7);
    }
}
