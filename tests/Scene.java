import java.util.function.LongSupplier;

/** Objects in three states, made anew each time by the same calls. */
enum Scene {
    /** A new object. */
    NEW,
    /** Three children, five things, two marks, image 0, slack 2, a few bytes; nothing is full. */
    SOME,
    /** Eight children, ten things, six marks, both images, 400 bytes. */
    FULL;

    private static final String SOME_TEXT = "slack 3;child 10 1 3;child 12 0 4;child 40 0 0;"
        + "coat plain 10 9;coat let 8 2;coat kept 1 13 5;boots turned 12 1;boots plain 11 1;"
        + "like 0 1 7;like 1 0 3;mark 12;mark 11;";
    private static final String FULL_TEXT = "child1 0 4;child3 1 1;child9 1 2;child9 2 2;"
        + "child9 0 0;child12 0 3;child39 1 4;child40 4 4;"
        + "coat plain1 9;coat turned9 1;coat let9 9;coat both7 2;coat kept7 40 1;"
        + "boots plain9 3;boots turned10 2;boots let38 4;boots both40 9;boots kept2 11 2;"
        + "like0 0 9;like7 9 1;like2 2 4;mark1;mark10;mark11;mark9;mark12;mark40;";

    HandedDown make() {
        switch (this) {
            case NEW: return new HandedDown();
            case SOME: return some();
            default: return full();
        }
    }

    private static HandedDown some() {
        HandedDown x = Check.told(SOME_TEXT);
        must(() -> x.wear(0, 0), -4);
        must(() -> x.wear(1, 3), -4);
        must(() -> x.wear(0, 4), -4);
        must(() -> x.winter(), 1);
        must(() -> x.keep(0), 0);
        must(() -> x.slack(2), 3);
        must(() -> x.like(2, 4, 9), 0);
        must(() -> x.cut(2, 12), 13);
        sheetOf(x, 0, 0, 0, 5, 1, 6);
        sheetOf(x, 1, 2, 0, 41, 1, 7, 2);
        sheetOf(x, 2, 1);
        must(() -> x.read(3, 0, 0, 1), 0);
        must(() -> Check.tell(x, "slack 9;"), -16);
        Check.tape(x, "mark 7;");
        return x;
    }

    private static HandedDown full() {
        HandedDown x = Check.told(FULL_TEXT);
        must(() -> x.dress(0), 3);
        must(() -> x.keep(0), 0);
        must(() -> x.winter(), 1);
        must(() -> x.dress(1), 3);
        must(() -> x.keep(1), 0);
        must(() -> x.mark(7), -3);
        must(() -> x.slack(4), 2);
        x.sheet(0, 2, 40);
        for (int i = 0; i < 6; i++) {
            x.lay(0, i, i % 2 == 0 ? 1 : 30 + i);
        }
        must(() -> x.lay(0, 39, Integer.MIN_VALUE), 1);
        sheetOf(x, 3, 0, 0, 9, -1);
        must(() -> x.read(3, 1, 0, 1), 0);
        Check.tape(x, "mark 7; ".repeat(50));
        return x;
    }

    private static void sheetOf(HandedDown x, int k, int lane, int... cells) {
        x.sheet(k, lane, cells.length);
        for (int i = 0; i < cells.length; i++) {
            x.lay(k, i, cells[i]);
        }
    }

    private static void must(LongSupplier call, long answer) {
        long got = call.getAsLong();
        if (got != answer) {
            throw new IllegalStateException("a scene's own call answered " + got + ", not " + answer);
        }
    }
}
