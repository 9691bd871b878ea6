import java.util.NoSuchElementException;

/** What all tests share: feeding texts, and telling which answers are not due. */
final class Check {
    /** Four of four kinds, two lanes, two words, two musts: the street of most tests. */
    static final String STREET = "street 10 lanes 2 frame 2 to 7 sharp 1 ; say go at 10 ; say end at 40 ;"
        + " walker nun plain lane 0 from 0 right pace 5 lag 0 ; walker cart pram lane 0 from 9 left pace 5 lag 10 on go ;"
        + " walker rex dog lane 1 from 8 right pace 4 lag 0 ; walker man stray lane 1 from 3 left pace 2 lag 20 on end ;"
        + " must nun end 8 ; must cart end 5 ; round 6 ;";
    static final long NO_SUCH_ELEMENT = Long.MIN_VALUE;

    private final String test;
    private int wrong;
    private int looked;

    Check(String test) {
        this.test = test;
    }

    void due(String call, long got, long want) {
        looked++;
        if (got != want) {
            wrong++;
            System.out.println(test + ": " + call + " answered " + got + ", due is " + want);
        }
    }

    void due(String call, boolean got, boolean want) {
        due(call, got ? 1 : 0, want ? 1 : 0);
    }

    static int feed(SamePassers x, String text) {
        int there = x.count(10);
        for (int i = 0; i < text.length(); i += 24) {
            long[] parts = new long[3];
            for (int k = 0; k < 24; k++) {
                int sign = i + k < text.length() ? text.charAt(i + k) & 255 : 0;
                parts[k / 8] = parts[k / 8] << 8 | sign;
            }
            there = x.feed(parts[0], parts[1], parts[2]);
        }
        return there;
    }

    static int street(SamePassers x, String text) {
        feed(x, text);
        return x.street();
    }

    static int takes(SamePassers x, String text) {
        feed(x, text);
        return x.takes();
    }

    /** A new object with this street, which has no fault. */
    SamePassers told(String text) {
        SamePassers x = new SamePassers();
        due("street of " + text, street(x, text), 0);
        return x;
    }

    static long laws(SamePassers x, int what) {
        try {
            return x.laws(what);
        } catch (NoSuchElementException e) {
            return NO_SUCH_ELEMENT;
        }
    }

    void end() {
        System.out.println(test + ": " + looked + " answers, " + wrong + " not as due");
        if (wrong > 0) {
            System.exit(1);
        }
    }
}
