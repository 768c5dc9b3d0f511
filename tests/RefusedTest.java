import java.util.ArrayList;
import java.util.List;
import java.util.function.ToLongFunction;

/**
 * "What is refused changes nothing": each call that is refused, at the first number beyond each bound and at the
 * largest and the smallest one, behind the same calls with and without it; and so with calls that only ask.
 */
public final class RefusedTest {
    private static final Check CHECK = new Check("RefusedTest");
    private static final int BAD = -1, STATE = -2, FULL = -3, NONE = -4;

    private final Scene scene;
    private final int children;
    private final int things;
    private final int marks;
    private final int bytes;
    private final boolean[] imaged = new boolean[2];
    private final List<List<String>> without = new ArrayList<>();

    private RefusedTest(Scene scene) {
        this.scene = scene;
        HandedDown x = scene.make();
        children = x.count(0);
        things = x.count(1);
        marks = x.count(2);
        bytes = x.count(5);
        for (int k = 0; k < 2; k++) {
            imaged[k] = scene.make().back(k) != STATE;
        }
        for (int part = 0; part < Probe.PARTS; part++) {
            without.add(Probe.of(scene.make(), part));
        }
    }

    public static void main(String[] args) {
        for (Scene scene : Scene.values()) {
            RefusedTest test = new RefusedTest(scene);
            test.text();
            test.worn();
            test.years();
            test.cutting();
            test.marks();
            test.images();
            test.sheets();
            test.asking();
        }
        some();
        full();
        refusedTexts();
        CHECK.close();
    }

    // ---- what is done for each call

    /** It answers this, and all else is as if it had not been called. */
    private void refused(int promise, String call, long answer, ToLongFunction<HandedDown> calling) {
        CHECK.promise(promise);
        CHECK.due(scene + ": " + call, calling.applyAsLong(scene.make()), answer);
        unchanged(promise, call, calling);
    }

    private void unchanged(int promise, String call, ToLongFunction<HandedDown> calling) {
        CHECK.promise(promise);
        for (int part = 0; part < Probe.PARTS; part++) {
            HandedDown x = scene.make();
            calling.applyAsLong(x);
            CHECK.same(scene + ": behind " + call, Probe.difference(Probe.of(x, part), without.get(part)), "");
        }
    }

    /** The first ones beyond these bounds, the ends of the type, and what would be within them by wrapping around. */
    private static int[] beyond(int low, int high) {
        int[] all = {low - 1, high + 1, Integer.MIN_VALUE, Integer.MAX_VALUE, low + 32, low + 64, low + 256,
            high + 65536, Integer.MIN_VALUE + low, Integer.MIN_VALUE + high, -low - 2};
        return outside(all, low, high);
    }

    private static int[] outside(int[] all, int low, int high) {
        int n = 0;
        int[] out = new int[all.length];
        for (int v : all) {
            if (v < low || v > high) {
                out[n++] = v;
            }
        }
        return java.util.Arrays.copyOf(out, n);
    }

    /** Beyond each one of these and of what is told by 10 and up to most. */
    private static int[] beyondWhats(int last, int most) {
        int[] all = new int[30];
        int n = 0;
        for (int what = -3; what <= 20; what++) {
            if ((what < 0 || what > last) && (what < 10 || what > 10 + most)) {
                all[n++] = what;
            }
        }
        for (int v : new int[] {Integer.MIN_VALUE, Integer.MAX_VALUE, Integer.MIN_VALUE + 9, 256, -10}) {
            all[n++] = v;
        }
        return java.util.Arrays.copyOf(all, n);
    }

    private static String call(String name, int... numbers) {
        StringBuilder told = new StringBuilder(name).append('(');
        for (int i = 0; i < numbers.length; i++) {
            told.append(i > 0 ? ", " : "").append(numbers[i]);
        }
        return told.append(')').toString();
    }

    private int[] beyondChildren() {
        return beyond(0, children - 1);
    }

    private int[] beyondThings() {
        return beyond(0, things - 1);
    }

    // ---- promises 3 to 9

    private void text() {
        for (int n : beyond(0, bytes)) {
            refused(3, call("end", n), BAD, x -> x.end(n));
        }
        for (int c : beyondChildren()) {
            refused(6, call("child", c, 0), BAD, x -> x.child(c, 0));
            refused(6, call("child", c, 11), BAD, x -> x.child(c, 11));
            if (things > 0) {
                refused(9, call("like", c, 0, 5), BAD, x -> x.like(c, 0, 5));
            }
        }
        for (int t : beyondThings()) {
            refused(7, call("thing", t, 0), BAD, x -> x.thing(t, 0));
            refused(7, call("thing", t, 7), BAD, x -> x.thing(t, 7));
            if (children > 0) {
                refused(9, call("like", 0, t, 5), BAD, x -> x.like(0, t, 5));
            }
        }
        for (int what : beyondWhats(2, 1)) {
            refused(6, call("child", 0, what), BAD, x -> x.child(0, what));
        }
        for (int what : beyondWhats(7, -1)) {
            refused(7, call("thing", 0, what), BAD, x -> x.thing(0, what));
        }
        for (int v : beyond(0, 4)) {
            refused(8, call("slack", v), BAD, x -> x.slack(v));
        }
        for (int v : beyond(0, 9)) {
            refused(9, call("like", 0, 0, v), BAD, x -> x.like(0, 0, v));
        }
    }

    // ---- promises 10 to 16

    private void worn() {
        for (int c : beyondChildren()) {
            for (int t = 0; t < Math.min(things, 2); t++) {
                int thing = t;
                refused(10, call("fits", c, t), BAD, x -> x.fits(c, thing));
                refused(11, call("wear", c, t), BAD, x -> x.wear(c, thing));
            }
            refused(12, call("doff", c, 0), BAD, x -> x.doff(c, 0));
            refused(12, call("doff", c, 1), BAD, x -> x.doff(c, 1));
        }
        for (int t : beyondThings()) {
            refused(10, call("fits", 0, t), BAD, x -> x.fits(0, t));
            refused(11, call("wear", 0, t), BAD, x -> x.wear(0, t));
        }
        for (int s : beyond(0, 1)) {
            refused(12, call("doff", 0, s), BAD, x -> x.doff(0, s));
            refused(13, call("cold", s), BAD, x -> x.cold(s));
            refused(14, call("deal", s, 0), BAD, x -> x.deal(s, 0));
            refused(14, call("deal", s, 10), BAD, x -> x.deal(s, 10));
            refused(15, call("dress", s), BAD, x -> x.dress(s));
            refused(16, call("spare", s), BAD, x -> x.spare(s));
        }
        for (int what : beyondWhats(1, children - 1)) {
            refused(14, call("deal", 0, what), BAD, x -> x.deal(0, what));
            refused(14, call("deal", 1, what), BAD, x -> x.deal(1, what));
        }
    }

    // ---- promises 19, 20

    private void years() {
        for (int s : beyond(0, 1)) {
            refused(19, call("ahead", s, 1), BAD, x -> x.ahead(s, 1, true, 0));
            refused(20, call("strong", s, 1), BAD, x -> x.strong(s, 1, true));
        }
        for (int y : beyond(1, 4)) {
            refused(19, call("ahead", 0, y), BAD, x -> x.ahead(0, y, false, 0));
            refused(19, call("ahead", 0, y) + " 10", BAD, x -> x.ahead(0, y, false, 10));
            refused(20, call("strong", 1, y), BAD, x -> x.strong(1, y, false));
        }
        for (int y = 1; y <= 4; y++) {
            int years = y;
            for (int what : beyondWhats(0, y - 1)) {
                refused(19, call("ahead", 0, y, what), BAD, x -> x.ahead(0, years, true, what));
            }
        }
    }

    // ---- promises 21 to 25

    private void cutting() {
        for (int t : beyondThings()) {
            refused(21, call("cut", t, 1), BAD, x -> x.cut(t, 1));
            refused(22, call("pays", t, 1), BAD, x -> x.pays(t, 1, false, 0));
        }
        for (int t = 0; t < things; t++) {
            int thing = t;
            int size = scene.make().thing(t, 2);
            // Worn or not: BAD is the first that fits.
            for (int to : beyond(1, size - 1)) {
                refused(21, call("cut", t, to), BAD, x -> x.cut(thing, to));
            }
        }
        for (int y : beyond(1, 4)) {
            refused(22, call("pays", 0, y), BAD, x -> x.pays(0, y, true, 0));
            refused(23, call("best", 0, y), BAD, x -> x.best(0, y, true, 0));
            refused(25, call("wish", 0, y), BAD, x -> x.wish(0, y, true, 0));
        }
        for (int what : beyondWhats(1, -1)) {
            refused(22, call("pays", 0, 1, what), BAD, x -> x.pays(0, 1, true, what));
            refused(23, call("best", 0, 1, what), BAD, x -> x.best(0, 1, true, what));
            refused(25, call("wish", 0, 1, what), BAD, x -> x.wish(0, 1, true, what));
        }
        for (int s : beyond(0, 1)) {
            refused(23, call("best", s, 1), BAD, x -> x.best(s, 1, false, 1));
            refused(24, call("sew", s, 1), BAD, x -> x.sew(s, 1));
            refused(25, call("wish", s, 1), BAD, x -> x.wish(s, 1, false, 1));
        }
        for (int size : beyond(1, 40)) {
            refused(24, call("sew", 0, size), BAD, x -> x.sew(0, size));
            refused(24, call("sew", 1, size), BAD, x -> x.sew(1, size));
        }
    }

    // ---- promises 28 to 33

    private void marks() {
        for (int s : beyond(0, 1)) {
            refused(28, call("odds", s, 0), BAD, x -> x.odds(s, 0));
            refused(33, call("lend", 0, s, 0), BAD, x -> x.lend(0, s, 0));
        }
        for (int what : beyondWhats(1, -1)) {
            refused(28, call("odds", 0, what), BAD, x -> x.odds(0, what));
            refused(32, call("whose", what), BAD, x -> x.whose(what));
            refused(33, call("lend", 0, 0, what), BAD, x -> x.lend(0, 0, what));
        }
        for (int size : beyond(1, 40)) {
            refused(29, call("mark", size), BAD, x -> x.mark(size));
        }
        for (int n : beyond(0, marks)) {
            refused(30, call("unmark", n), BAD, x -> x.unmark(n));
        }
        for (int what : beyondWhats(0, marks - 1)) {
            refused(31, call("rows", what), BAD, x -> x.rows(what));
        }
        for (int k : beyond(0, 1)) {
            refused(33, call("lend", k, 0, 0), BAD, x -> x.lend(k, 0, 0));
        }
    }

    // ---- promises 33 to 35

    private void images() {
        for (int k : beyond(0, 1)) {
            refused(34, call("keep", k), BAD, x -> x.keep(k));
            refused(35, call("back", k), BAD, x -> x.back(k));
        }
        for (int k = 0; k < 2; k++) {
            int image = k;
            if (!imaged[k]) {
                refused(35, call("back", k), STATE, x -> x.back(image));
                for (int s = 0; s < 2; s++) {
                    int slot = s;
                    refused(33, call("lend", k, s, 0), STATE, x -> x.lend(image, slot, 0));
                    refused(33, call("lend", k, s, 1), STATE, x -> x.lend(image, slot, 1));
                }
                refused(33, call("lend", k, 2, 0), BAD, x -> x.lend(image, 2, 0));
                refused(33, call("lend", k, 0, 2), BAD, x -> x.lend(image, 0, 2));
            }
        }
    }

    // ---- promises 36 to 40

    private void sheets() {
        for (int k : beyond(0, 3)) {
            refused(36, call("sheet", k, 0, 1), BAD, x -> x.sheet(k, 0, 1));
            refused(36, call("sheet", k, 0, -1), BAD, x -> x.sheet(k, 0, -1));
            refused(37, call("lay", k, 0, 1), BAD, x -> x.lay(k, 0, 1));
            refused(38, call("read", k, 0, 0, 1), BAD, x -> x.read(k, 0, 0, 1));
            refused(38, call("read", k, 0, 0, 0), BAD, x -> x.read(k, 0, 0, 0));
        }
        for (int lane : beyond(0, 2)) {
            refused(36, call("sheet", 0, lane, 1), BAD, x -> x.sheet(0, lane, 1));
            refused(36, call("sheet", 0, lane, -1), BAD, x -> x.sheet(0, lane, -1));
            refused(38, call("read", 0, lane, 0, 1), BAD, x -> x.read(0, lane, 0, 1));
            refused(38, call("read", 3, lane, 0, 0), BAD, x -> x.read(3, lane, 0, 0));
        }
        for (int n : beyond(0, 40)) {
            for (int k = 0; k < 4; k++) {
                int sheet = k;
                refused(36, call("sheet", k, 0, n), n < 0 ? -14 : BAD, x -> x.sheet(sheet, 0, n));
            }
        }
        for (int n : beyond(0, 10)) {
            refused(38, call("read", 0, 0, 0, n), BAD, x -> x.read(0, 0, 0, n));
            refused(38, call("read", 1, 2, 0, n), BAD, x -> x.read(1, 2, 0, n));
        }
        for (int k = 0; k < 4; k++) {
            int sheet = k;
            int cells = cellsOf(k);
            for (int i : beyond(0, cells - 1)) {
                refused(37, call("lay", k, i, 7), cells < 0 ? -11 : -12, x -> x.lay(sheet, i, 7));
            }
            if (cells < 0) {
                refused(37, call("lay", k, 0, 7), -11, x -> x.lay(sheet, 0, 7));
            }
        }
        for (int what : beyondWhats(7, -1)) {
            refused(40, call("count", what), BAD, x -> x.count(what));
        }
    }

    /** How many cells there are; -1: nothing. */
    private int cellsOf(int k) {
        HandedDown x = scene.make();
        if (x.lay(k, 0, 0) == -11) {
            return -1;
        }
        int cells = 0;
        while (x.lay(k, cells, 0) == 1) {
            cells++;
        }
        return cells;
    }

    // ---- what only asks

    private void asking() {
        for (int s = 0; s < 2; s++) {
            int slot = s;
            unchanged(13, call("cold", s), x -> x.cold(slot));
            unchanged(14, call("deal", s, 0), x -> x.deal(slot, 0));
            unchanged(14, call("deal", s, 1), x -> x.deal(slot, 1));
            unchanged(16, call("spare", s), x -> x.spare(slot));
            for (int y = 1; y <= 4; y += 3) {
                int years = y;
                unchanged(19, call("ahead", s, y), x -> x.ahead(slot, years, true, 0));
                unchanged(20, call("strong", s, y), x -> x.strong(slot, years, true));
                unchanged(23, call("best", s, y), x -> x.best(slot, years, true, 0));
                unchanged(25, call("wish", s, y), x -> x.wish(slot, years, true, 1));
            }
            unchanged(28, call("odds", s, 0), x -> x.odds(slot, 0));
            unchanged(33, call("lend", 0, s, 0), x -> x.lend(0, slot, 0));
            unchanged(33, call("lend", 1, s, 1), x -> x.lend(1, slot, 1));
        }
        for (int t = 0; t < things; t++) {
            int thing = t;
            unchanged(10, call("fits", 0, t), x -> x.fits(0, thing));
            unchanged(22, call("pays", t, 4), x -> x.pays(thing, 4, false, 0));
        }
        unchanged(5, "fault()", x -> x.fault());
        unchanged(6, "child(0, 0)", x -> x.child(0, 0));
        unchanged(7, "thing(0, 0)", x -> x.thing(0, 0));
        unchanged(26, "swap()", x -> x.swap());
        unchanged(31, "rows(0)", x -> x.rows(0));
        unchanged(31, "rows(10)", x -> x.rows(10));
        unchanged(32, "whose(0)", x -> x.whose(0));
        unchanged(32, "whose(1)", x -> x.whose(1));
        unchanged(39, "torn()", x -> x.torn());
        unchanged(40, "count(3)", x -> x.count(3));
    }

    // ---- what the scenes have of their own

    private static void some() {
        RefusedTest test = new RefusedTest(Scene.SOME);
        // Too large (its heir 12 alone could), worn out, too small, kept; what another wears stays with him.
        test.refused(11, "wear(0, 2): kept for another", STATE, x -> x.wear(0, 2));
        test.refused(11, "wear(0, 4): worn out", STATE, x -> x.wear(0, 4));
        test.refused(11, "wear(1, 0): too small, and worn by another", STATE, x -> x.wear(1, 0));
        test.refused(11, "wear(1, 1): too small by 2 more, too", STATE, x -> x.wear(1, 1));
        test.refused(11, "wear(2, 3): too small, and worn by another", STATE, x -> x.wear(2, 3));
        test.refused(12, "doff(2, 0)", NONE, x -> x.doff(2, 0));
        test.refused(12, "doff(1, 0)", NONE, x -> x.doff(1, 0));
        test.refused(12, "doff(0, 1)", NONE, x -> x.doff(0, 1));
        test.refused(20, "strong", NONE, x -> x.strong(0, 1, false));
        for (int t : new int[] {0, 3}) {
            test.refused(21, call("cut", t, 1), STATE, x -> x.cut(t, 1));
            test.refused(22, call("pays", t, 1), STATE, x -> x.pays(t, 1, false, 0));
            test.refused(22, call("pays", t, 1) + " what 2", BAD, x -> x.pays(t, 1, false, 2));
        }
        test.refused(22, "pays(1)", NONE, x -> x.pays(1, 1, false, 0));
        test.refused(23, "best", NONE, x -> x.best(0, 1, false, 1));
        test.refused(26, "swap()", NONE, x -> x.swap());
        test.refused(38, "read: the first is refused", -20, x -> x.read(1, 2, 0, 2));
        test.refused(38, "read: the first is refused ahead of the end", -20, x -> x.read(1, 2, 3, 2));
        test.refused(38, "read: size as a slot", -20, x -> x.read(0, 0, 1, 1));
    }

    private static void full() {
        RefusedTest test = new RefusedTest(Scene.FULL);
        test.refused(2, "feed(0)", FULL, x -> x.feed(0));
        test.refused(2, "feed of the largest", FULL, x -> x.feed(Long.MAX_VALUE));
        test.refused(2, "feed of the smallest", FULL, x -> x.feed(Long.MIN_VALUE));
        for (int s = 0; s < 2; s++) {
            int slot = s;
            test.refused(24, call("sew", s, 1), FULL, x -> x.sew(slot, 1));
            test.refused(24, call("sew", s, 40), FULL, x -> x.sew(slot, 40));
            test.refused(25, call("wish", s, 1, 0), FULL, x -> x.wish(slot, 1, false, 0));
            test.refused(25, call("wish", s, 4, 1), FULL, x -> x.wish(slot, 4, true, 1));
        }
        test.refused(29, "mark(1)", FULL, x -> x.mark(1));
        test.refused(29, "mark(40)", FULL, x -> x.mark(40));
        test.refused(38, "read: there are 10 things", -20, x -> x.read(0, 2, 0, 1));
        test.refused(38, "read: there are 10 things", -20, x -> x.read(3, 0, 0, 10));
    }

    /** Each fault of a text, behind another text with the same fault: the tape alone is another then. */
    private static void refusedTexts() {
        CHECK.promise(4);
        String[] ends = {".", "mark;", "mark 41;", "slack 0;slack 0;", "mark 1;".repeat(7), "like 7 9 1;"};
        String told = "slack 0;child 1 1 1;coat let 2 2;like 0 0 9;mark 3;";
        for (int fault = 1; fault <= 6; fault++) {
            String ending = ends[fault - 1];
            String whole = fault == 4 || fault == 5 ? "child 1 1 1;" + ending : told + ending;
            for (Scene scene : Scene.values()) {
                for (int part = 0; part < Probe.PARTS; part++) {
                    HandedDown x = scene.make();
                    HandedDown y = scene.make();
                    Check.tell(x, ending);
                    Check.tell(y, ending);
                    int answer = Check.tell(x, whole);
                    CHECK.due("text of " + whole, answer < -9 ? 1 : 0, 1);
                    CHECK.due("fault of " + whole, x.fault(), fault);
                    CHECK.same(scene + ": behind the text " + whole,
                        Probe.difference(Probe.of(x, part), Probe.of(y, part)), "");
                }
            }
        }
    }
}
