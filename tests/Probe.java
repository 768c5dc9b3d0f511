import java.util.ArrayList;
import java.util.List;

/** Asks an object for all that calls show of it, a part of that at a time; the object is used up by it. */
final class Probe {
    /** What stands now; image 0; image 1; the tape and the sheets. */
    static final int PARTS = 4;
    /** Scenes take the rest of the 512 calls, some of which are made here and not shown. */
    private static final int MOST_SHOWN = 345;
    private static final int MOST_CELLS_ASKED = 60;

    private final HandedDown x;
    private final List<String> shown = new ArrayList<>();
    private int cellsAsked = 0;

    private Probe(HandedDown x) {
        this.x = x;
    }

    static List<String> of(HandedDown x, int part) {
        Probe probe = new Probe(x);
        switch (part) {
            case 0: probe.village(); probe.fits(); probe.answers(); probe.likings(); break;
            case 1: case 2: probe.image(part - 1); break;
            default: probe.tape(); probe.sheets();
        }
        if (probe.shown.size() > MOST_SHOWN || probe.cellsAsked > MOST_CELLS_ASKED) {
            throw new IllegalStateException("a probe of too many calls: " + probe.shown.size());
        }
        return probe.shown;
    }

    /** The first call that two probes answer differently, or nothing. */
    static String difference(List<String> one, List<String> other) {
        for (int i = 0; i < Math.max(one.size(), other.size()); i++) {
            String a = i < one.size() ? one.get(i) : "nothing";
            String b = i < other.size() ? other.get(i) : "nothing";
            if (!a.equals(b)) {
                return a + ", without it " + b;
            }
        }
        return "";
    }

    private long show(String call, long answer) {
        shown.add(call + " = " + answer);
        return answer;
    }

    private void village() {
        int children = x.count(0);
        int things = x.count(1);
        for (int what = 0; what < 8; what++) {
            show("count(" + what + ")", x.count(what));
        }
        show("fault()", x.fault());
        show("torn()", x.torn());
        for (int c = 0; c < children; c++) {
            for (int what : new int[] {0, 1, 2, 10, 11}) {
                show("child(" + c + ", " + what + ")", x.child(c, what));
            }
        }
        for (int t = 0; t < things; t++) {
            for (int what = 0; what < 8; what++) {
                show("thing(" + t + ", " + what + ")", x.thing(t, what));
            }
        }
        show("cold(0)", x.cold(0));
        show("cold(1)", x.cold(1));
    }

    private void fits() {
        int children = x.count(0);
        int things = x.count(1);
        for (int c = 0; c < children; c++) {
            for (int t = 0; t < things; t++) {
                show("fits(" + c + ", " + t + ")", x.fits(c, t));
            }
        }
    }

    private void answers() {
        int children = x.count(0);
        for (int s = 0; s < 2; s++) {
            show("deal(" + s + ", 0)", x.deal(s, 0));
            for (int c = 0; c < children; c++) {
                show("deal(" + s + ", 10 and " + c + ")", x.deal(s, 10 + c));
            }
            show("spare", x.spare(s));
            show("ahead slow", x.ahead(s, 4, false, 0));
            show("ahead quick", x.ahead(s, 4, true, 0));
            show("strong", x.strong(s, 2, false));
            show("best", x.best(s, 1, false, 0));
            show("wish", x.wish(s, 1, true, 0));
            show("odds", x.odds(s, 0));
            for (int k = 0; k < 2; k++) {
                show("lend(" + k + ", " + s + ", 0)", x.lend(k, s, 0));
                show("lend(" + k + ", " + s + ", 1)", x.lend(k, s, 1));
            }
        }
        show("swap()", x.swap());
        show("whose(0)", x.whose(0));
        show("whose(1)", x.whose(1));
        marks();
    }

    private void marks() {
        int marks = x.count(2);
        show("rows(0)", x.rows(0));
        for (int k = 0; k < marks; k++) {
            show("rows(10 and " + k + ")", x.rows(10 + k));
        }
    }

    /** The last that is asked of what stands: it takes the likings away. */
    private void likings() {
        int children = x.count(0);
        int things = x.count(1);
        for (int c = 0; c < children; c++) {
            for (int t = 0; t < things; t++) {
                show("liking of " + c + " for " + t, x.like(c, t, 0));
            }
        }
    }

    private void image(int k) {
        show("back(" + k + ")", x.back(k));
        village();
        marks();
        likings();
    }

    private void tape() {
        show("fault()", x.fault());
        show("count(5)", x.count(5));
        show("text()", x.text());
        show("fault()", x.fault());
        show("bytes left", x.count(5));
        show("children", x.count(0));
        show("things", x.count(1));
        show("marks", x.count(2));
        show("images", x.count(4));
        show("slack", x.count(7));
        marks();
    }

    private void sheets() {
        show("torn()", x.torn());
        for (int k = 0; k < 4; k++) {
            for (int lane = 0; lane < 3; lane++) {
                cells(k, lane);
            }
        }
    }

    /** What can be sewn from each cell on, up to where the sheet ends, if it is of this lane. */
    private void cells(int k, int lane) {
        for (int f = 0; f <= 40; f++) {
            cellsAsked++;
            x.end(0);
            x.text();
            long came = show("read(" + k + ", " + lane + ", " + f + ", 1)", x.read(k, lane, f, 1));
            if (came == 1) {
                show("slot", x.thing(0, 0));
                show("size", x.thing(0, 2));
            } else if (came == 0) {
                show("torn()", x.torn());
                break;
            }
        }
    }
}
