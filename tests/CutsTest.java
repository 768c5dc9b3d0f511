/** Promises 21 to 27: cutting, sewing, swaps. */
public final class CutsTest {
    private static final Check CHECK = new Check("CutsTest");

    public static void main(String[] args) {
        cuts();
        paying();
        bestCuts();
        sewing();
        wishes();
        swaps();
        settling();
        CHECK.close();
    }

    private static void due(String call, long got, long want) {
        CHECK.due(call, got, want);
    }

    private static void cuts() {
        CHECK.promise(21);
        HandedDown x = Check.told("child 20 0 0;coat plain 20 5;coat plain 1 5;coat let 18 5;");
        due("no less", x.cut(0, 20), -1);
        due("more", x.cut(0, 21), -1);
        due("0", x.cut(0, 0), -1);
        due("min", x.cut(0, Integer.MIN_VALUE), -1);
        due("t 3", x.cut(3, 1), -1);
        due("t -1", x.cut(-1, 1), -1);
        due("of 1", x.cut(1, 1), -1);
        x.wear(0, 0);
        due("worn", x.cut(0, 10), -2);
        due("worn, but bad ahead of it", x.cut(0, 20), -1);
        x.doff(0, 0);
        due("cut", x.cut(0, 19), 20);
        due("cut", x.cut(0, 1), 19);
        due("never up again", x.cut(0, 19), -1);
        due("size", x.thing(0, 2), 1);
        due("to be let out still", x.cut(2, 17), 18);
        due("it can not", x.fits(0, 2), 0);
        x.slack(4);
        due("it can not", x.fits(0, 2), 0);
        x.wear(0, 2);
        due("not let out", x.thing(2, 5), 0);
    }

    private static void paying() {
        CHECK.promise(22);
        HandedDown x = Check.told("child 10 0 0;child 5 1 1;coat plain 30 9;boots plain 10 9;coat plain 12 9;");
        // Child 0 has thing 2. Child 1 is 5, 6, 7, 8.
        due("y 1", x.pays(0, 1, false, 0), 7);
        due("y 1 new", x.pays(0, 1, false, 1), 0);
        due("y 3", x.pays(0, 3, false, 0), 7);
        due("y 3 new", x.pays(0, 3, false, 1), 0);
        due("y 4", x.pays(0, 4, false, 0), 8);
        due("y 4 new", x.pays(0, 4, false, 1), 1);
        due("size stays", x.thing(0, 2), 30);
        due("one warm for another", x.pays(1, 4, false, 0), -4);
        due("none", x.pays(2, 1, false, 0), -4);
        x.wear(0, 2);
        due("worn", x.pays(2, 1, false, 0), -2);
        due("worn, bad y", x.pays(2, 0, false, 0), -1);
        due("worn, bad what", x.pays(2, 1, false, 2), -1);
        due("t 3", x.pays(3, 1, false, 0), -1);
        due("t -1", x.pays(-1, 1, false, 0), -1);
        due("y 5", x.pays(0, 5, false, 0), -1);
        due("what 10", x.pays(0, 1, false, 10), -1);
        due("what -1", x.pays(0, 1, false, -1), -1);
        x = Check.told("child 10 0 0;coat plain 9 9;coat plain 1 9;");
        due("too small", x.pays(0, 1, false, 0), -4);
        due("nothing less", x.pays(1, 1, false, 0), -4);
        x = Check.told("slack 0;child 1 0 0;coat plain 9 9;boots plain 2 9;");
        due("down to 1", x.pays(0, 1, false, 0), 1);
        due("down to 1", x.pays(1, 1, false, 0), 1);
        // Slow 10, 10; quick 10, 14.
        x = Check.told("child 10 0 4;boots plain 20 9;boots plain 10 9;");
        due("slow", x.pays(0, 2, false, 0), -4);
        due("quick", x.pays(0, 2, true, 0), 16);
        due("quick new", x.pays(0, 2, true, 1), 0);
        due("best slow", x.best(1, 2, false, 0), -4);
        due("best quick", x.best(1, 2, true, 0), 16);
        due("best of coats", x.best(0, 2, true, 0), -4);
        // Slow 10, 14 and 20; quick 10, 14 and 20, 24: the size that pays depends on it.
        x = Check.told("child 10 0 4;child 20 0 0;coat plain 30 9;coat plain 10 9;");
        due("slow", x.pays(0, 2, false, 0), 22);
        due("quick", x.pays(0, 2, true, 0), 22);
        due("quick new", x.pays(0, 2, true, 1), 1);
        x = Check.told("child 8 0 2;coat plain 30 9;");
        due("slow: 10 is as good as less", x.pays(0, 4, false, 0), 10);
        due("quick: 14 is", x.pays(0, 4, true, 0), 14);
        due("best slow", x.best(0, 4, false, 0), 10);
        due("best quick", x.best(0, 4, true, 0), 14);
        // Cut down to what can be let out later.
        x = Check.told("slack 0;child 10 1 1;coat let 30 9;");
        due("let", x.pays(0, 3, false, 0), 10);
        due("let new", x.pays(0, 3, false, 1), 1);
    }

    private static void bestCuts() {
        CHECK.promise(23);
        HandedDown x = Check.told("child 10 0 0;child 5 0 0;coat plain 30 1;coat plain 40 9;coat plain 35 9;");
        due("two would do as well", x.best(0, 4, false, 0), 112);
        due("new", x.best(0, 4, false, 1), 4);
        due("thing 0 for one year", x.best(0, 1, false, 0), 12);
        due("new", x.best(0, 1, false, 1), 1);
        due("boots", x.best(1, 1, false, 0), -4);
        x = Check.told("child 10 0 0;child 8 0 0;coat plain 13 9;coat plain 14 9;");
        due("the first thing", x.best(0, 1, false, 0), 12);
        x.slack(4);
        x.wear(0, 0);
        x.slack(2);
        due("worn ones are not cut", x.best(0, 1, false, 0), 112);
        due("new", x.best(0, 1, false, 1), 1);
        x.slack(4);
        x.doff(0, 0);
        x.wear(0, 1);
        x.slack(2);
        due("the first is not worn", x.best(0, 1, false, 0), 12);
        x.slack(4);
        x.cut(0, 12);
        x.wear(1, 0);
        x.slack(2);
        due("all are worn", x.best(0, 1, false, 0), -4);
        due("sizes stay", x.thing(0, 2) * 100 + x.thing(1, 2), 1214);
        due("s 2", x.best(2, 1, false, 0), -1);
        due("s -1", x.best(-1, 1, false, 0), -1);
        due("y 0", x.best(0, 0, false, 0), -1);
        due("y 5", x.best(0, 5, false, 0), -1);
        due("what 2", x.best(0, 1, false, 2), -1);
        due("what -1", x.best(0, 1, false, -1), -1);
    }

    private static void sewing() {
        CHECK.promise(24);
        HandedDown x = Check.told("child 10 0 0;coat let 10 5;");
        due("sew", x.sew(0, 1), 1);
        due("sew", x.sew(1, 40), 2);
        int[] want = {1, 0, 40, 3, 0, 0, -4, -4};
        for (int what = 0; what < 8; what++) {
            due("sewn " + what, x.thing(2, what), want[what]);
        }
        due("size 0", x.sew(0, 0), -1);
        due("size 41", x.sew(0, 41), -1);
        due("s 2", x.sew(2, 5), -1);
        due("s -1", x.sew(-1, 5), -1);
        for (int t = 3; t < 10; t++) {
            due("sew", x.sew(0, t), t);
        }
        due("full", x.sew(0, 5), -3);
        due("bad ahead of full", x.sew(0, 41), -1);
        due("count", x.count(1), 10);
        x = Check.told("child 10 0 0;coat let 10 5;");
        x.keep(0);
        x.sew(0, 10);
        x.like(0, 1, 5);
        x.back(0);
        due("sewn anew", x.sew(0, 9), 1);
        due("not liked yet", x.like(0, 1, 0), 0);
        x = Check.told("child 10 0 0;coat both 8 1;coat kept 0 10 5;");
        x.wear(0, 0);
        x.keep(0);
        Check.tell(x, "child 10 0 0;");
        due("plain in its place", x.sew(0, 8), 0);
        for (int what = 0; what < 8; what++) {
            due("plain in its place " + what, x.thing(0, what), new int[] {0, 0, 8, 3, 0, 0, -4, -4}[what]);
        }
    }

    private static void wishes() {
        CHECK.promise(25);
        HandedDown x = Check.told("child 10 1 2;child 20 0 0;coat plain 20 9;");
        due("y 1", x.wish(0, 1, false, 0), 10);
        due("y 1 new", x.wish(0, 1, false, 1), 0);
        due("y 3", x.wish(0, 3, false, 0), 12);
        due("y 4", x.wish(0, 4, false, 0), 12);
        due("y 4 new", x.wish(0, 4, false, 1), 1);
        due("quick y 4", x.wish(0, 4, true, 0), 12);
        due("quick y 4 new", x.wish(0, 4, true, 1), 2);
        due("boots for the least", x.wish(1, 1, true, 0), 10);
        due("boots for the least, new", x.wish(1, 1, true, 1), 1);
        due("nothing is sewn", x.count(1), 1);
        due("y 0", x.wish(0, 0, false, 0), -1);
        due("y 5", x.wish(0, 5, false, 0), -1);
        due("s 2", x.wish(2, 1, false, 0), -1);
        due("s -1", x.wish(-1, 1, false, 0), -1);
        due("what 2", x.wish(0, 1, false, 2), -1);
        due("what -1", x.wish(0, 1, false, -1), -1);
        for (int t = 1; t < 10; t++) {
            due("9 things are not full", x.wish(0, 1, false, 1) >= 0 ? 1 : 0, 1);
            x.sew(1, 5);
        }
        due("full", x.wish(0, 1, false, 0), -3);
        due("bad ahead of full", x.wish(0, 1, false, 2), -1);
        x = Check.told("child 40 0 0;slack 0;");
        due("40", x.wish(0, 4, false, 0), 40);
        due("it lasts", x.wish(0, 4, false, 1), 0);
    }

    private static void swaps() {
        CHECK.promise(26);
        HandedDown x = Check.told("child 10 0 0;child 10 0 0;child 10 0 0;coat plain 10 5;coat plain 11 5;coat plain 12 5;"
            + "boots plain 10 5;boots plain 10 5;boots plain 10 5;");
        due("nobody wears anything", x.swap(), -4);
        for (int c = 0; c < 3; c++) {
            x.wear(c, c);
            x.wear(c, 3 + c);
        }
        due("nobody likes anything", x.swap(), -4);
        x.like(1, 5, 1);
        due("one alone likes it", x.swap(), -4);
        x.like(2, 4, 1);
        due("boots", x.swap(), 112);
        x.like(2, 0, 3);
        x.like(0, 2, 3);
        due("coats first", x.swap(), 2);
        x.like(0, 1, 4);
        x.like(1, 0, 4);
        due("the lesser other one", x.swap(), 1);
        x.like(1, 1, 4);
        due("not more than his own", x.swap(), 2);
        x.like(1, 1, 0);
        x.like(0, 0, 4);
        due("nor the other one", x.swap(), 112);
        x.like(0, 0, 0);
        due("the first again", x.swap(), 1);
        due("nothing is changed", x.child(0, 10), 0);
        x = Check.told("child 10 0 0;child 12 0 0;coat plain 12 5;coat plain 14 5;like 0 1 5;like 1 0 5;");
        x.wear(0, 0);
        x.wear(1, 1);
        due("too large for the other", x.swap(), -4);
        x.slack(4);
        due("fits now", x.swap(), 1);
        x = Check.told("slack 0;child 10 0 0;child 8 0 0;coat plain 10 5;coat let 8 5;like 0 1 5;like 1 0 5;");
        x.wear(0, 0);
        x.wear(1, 1);
        x.slack(4);
        due("by letting out is not enough", x.swap(), -4);
        x = Check.told("child 10 0 0;child 10 0 0;coat kept 0 10 5;coat plain 10 5;like 0 1 5;like 1 0 5;");
        x.wear(0, 0);
        x.wear(1, 1);
        due("kept", x.swap(), -4);
    }

    private static void settling() {
        CHECK.promise(27);
        HandedDown x = Check.told("child 10 0 0;child 10 0 0;child 10 0 0;coat plain 10 5;coat plain 11 5;coat plain 12 5;"
            + "like 0 1 1;like 0 2 2;like 1 0 2;like 1 2 1;like 2 0 1;like 2 1 2;boots plain 10 5;boots plain 11 5;");
        due("none", x.settle(), 0);
        for (int c = 0; c < 3; c++) {
            x.wear(c, c);
        }
        // 0 and 1 change first; then 0 likes what 2 has, and 2 what 0 has by then.
        due("first", x.swap(), 1);
        due("settle", x.settle(), 2);
        due("child 0", x.child(0, 10), 2);
        due("child 1", x.child(1, 10), 0);
        due("child 2", x.child(2, 10), 1);
        due("who wears it", x.thing(0, 7) + 10 * x.thing(1, 7) + 100 * x.thing(2, 7), 21);
        due("none is left", x.swap(), -4);
        x = Check.told("slack 4;child 10 0 0;child 10 0 0;coat plain 10 5;coat plain 14 5;like 0 1 1;like 1 0 1;");
        x.wear(0, 0);
        x.wear(1, 1);
        due("by today's slack", x.settle(), 1);
        x = Check.told("child 10 0 0;child 10 0 0;coat plain 10 5;coat plain 10 5;boots plain 10 5;boots plain 10 5;"
            + "like 0 1 9;like 1 0 9;like 0 3 1;like 1 2 1;");
        for (int t = 0; t < 4; t++) {
            x.wear(t % 2, t);
        }
        due("both slots", x.settle(), 2);
        due("coat", x.child(0, 10), 1);
        due("coat", x.child(1, 10), 0);
        due("boots", x.child(0, 11), 3);
        due("none is left", x.swap(), -4);
        due("settled", x.settle(), 0);
    }
}
