/** Counts what is not as due, and puts a text on the tape. */
final class Check {
    private final String test;
    private int promise = 0;
    private int wrong = 0;
    private int asked = 0;

    Check(String test) {
        this.test = test;
    }

    /** What follows is of this promise of the document. */
    void promise(int number) {
        promise = number;
    }

    void due(String call, long got, long want) {
        asked++;
        if (got != want) {
            wrong++;
            System.out.println(where() + call + " answered " + got + ", due is " + want);
        }
    }

    /** Two texts that are due to be the same. */
    void same(String call, String got, String want) {
        asked++;
        if (!got.equals(want)) {
            wrong++;
            System.out.println(where() + call + ": '" + got + "', due is '" + want + "'");
        }
    }

    private String where() {
        return test + (promise > 0 ? ", promise " + promise + ": " : ": ");
    }

    void close() {
        System.out.println(test + ": " + asked + " answers, " + wrong + " not as due");
        if (wrong != 0) {
            System.exit(1);
        }
    }

    /** The tape becomes these signs, whatever it had. */
    static void tape(HandedDown x, String signs) {
        x.end(0);
        for (int at = 0; at < signs.length(); at += 8) {
            long v = 0;
            for (int i = at; i < at + 8; i++) {
                v = v << 8 | (i < signs.length() ? signs.charAt(i) & 255 : 'x');
            }
            x.feed(v);
        }
        x.end(signs.length());
    }

    static int tell(HandedDown x, String signs) {
        tape(x, signs);
        return x.text();
    }

    static HandedDown told(String signs) {
        HandedDown x = new HandedDown();
        int lines = tell(x, signs);
        if (lines < 0) {
            throw new IllegalStateException("a test's own text is refused: " + signs + " " + lines + " " + x.fault());
        }
        return x;
    }

    /** A text that is refused, its fault and the place of it. */
    void refused(HandedDown x, String signs, int fault, int place) {
        due("text of '" + signs + "'", tell(x, signs), -10 - place);
        due("fault of '" + signs + "'", x.fault(), fault);
        due("bytes left of '" + signs + "'", x.count(5), 0);
    }

    void taken(HandedDown x, String signs, int lines) {
        due("text of '" + signs + "'", tell(x, signs), lines);
        due("fault of '" + signs + "'", x.fault(), 0);
        due("bytes left of '" + signs + "'", x.count(5), 0);
    }
}
