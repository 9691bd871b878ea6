/**
 * All that can be asked of an object, as a text, so that two objects can be held against each other.
 * It takes some 350 calls for a street with three walkers, and the object is another one afterwards:
 * what can be undone and the MARKS are seen only by going back to them.
 */
final class Portrait {
    static final String STREET = "street 10 lanes 2 frame 2 to 7 sharp 1;say go at 10;say end at 40;"
        + "walker nun plain lane 0 from 0 right pace 5 lag 0;walker rex dog lane 1 from 8 right pace 4 lag 0;"
        + "walker man stray lane 1 from 3 left pace 2 lag 20 on end;must nun end 8;must rex go 9;round 6;"
        + "quick tempo + nth;odd passes - 9;";

    private final SamePassers x;
    private final StringBuilder text = new StringBuilder();
    private final int walkers;

    private Portrait(SamePassers x) {
        this.x = x;
        walkers = x.count(3);
    }

    static String of(SamePassers x) {
        Portrait portrait = new Portrait(x);
        portrait.drawAll();
        return portrait.text.toString();
    }

    private void drawAll() {
        for (int what = 0; what <= 11; what++) {
            add(x.count(what));
        }
        for (int walker = 0; walker < walkers; walker++) {
            for (int what = 0; what <= 9; what++) {
                add(x.walker(walker, what));
            }
            add(x.where(walker, 100));
        }
        for (int word = 0; word < 6; word++) {
            add(x.tenth(word));
        }
        drawPapers();
        drawJudged();
        for (int i = 0; i < 17 && x.undo(); i++) {
            text.append("| undo ");
            drawHands();
        }
        for (int mark = 0; mark < 4; mark++) {
            if (x.mark(mark, true)) {
                text.append("| mark ").append(mark).append(' ');
                drawHands();
                drawPapers();
            }
        }
        text.append("| tape ");
        add(x.takes());
        add(x.count(6));
        drawJudged();
    }

    private void drawHands() {
        add(x.count(5));
        for (int walker = 0; walker < walkers; walker++) {
            add(x.walker(walker, 2));
            add(x.walker(walker, 3));
            add(x.walker(walker, 7));
        }
    }

    private void drawPapers() {
        text.append("told ");
        add(x.count(7));
        add(Check.laws(x, -1));
        add(Check.laws(x, -2));
        text.append("sights ");
        int sights = x.count(8);
        for (int what = -1; what < sights; what++) {
            add(x.hired(what));
        }
    }

    private void drawJudged() {
        text.append("judged ");
        for (int what = 0; what <= 2; what++) {
            add(x.judged(what));
        }
    }

    private void add(long answer) {
        text.append(answer == Check.NO_SUCH_ELEMENT ? "no" : Long.toString(answer)).append(' ');
    }
}
