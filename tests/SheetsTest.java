/** Promises 36 to 40: sheets, their faults, counts. */
public final class SheetsTest {
    private static final Check CHECK = new Check("SheetsTest");

    public static void main(String[] args) {
        making();
        laying();
        lanes();
        reading();
        readingPastTheEnd();
        readingTheWrongWay();
        readingRefused();
        readingFull();
        readingNone();
        readBad();
        counts();
        CHECK.close();
    }

    private static void due(String call, long got, long want) {
        CHECK.due(call, got, want);
    }

    private static void making() {
        CHECK.promise(36);
        HandedDown x = new HandedDown();
        due("k 4", x.sheet(4, 0, 1), -1);
        due("k -1", x.sheet(-1, 0, 1), -1);
        due("lane 3", x.sheet(0, 3, 1), -1);
        due("lane -1", x.sheet(0, -1, 1), -1);
        due("n 41", x.sheet(0, 0, 41), -1);
        due("n max", x.sheet(0, 0, Integer.MAX_VALUE), -1);
        due("n -1", x.sheet(0, 0, -1), -14);
        due("n min", x.sheet(0, 0, Integer.MIN_VALUE), -14);
        due("bad ahead of -14", x.sheet(0, 3, -1), -1);
        due("bad ahead of -14", x.sheet(4, 0, -1), -1);
        due("nothing yet", x.count(6), -4);
        due("n 0", x.sheet(0, 0, 0), 1);
        due("no cells", x.count(6), 0);
        due("n 40", x.sheet(0, 2, 40), 1);
        due("40 cells", x.count(6), 40);
        due("-14 changes nothing", x.sheet(0, 2, -5), -14);
        due("40 cells", x.count(6), 40);
        due("others are nothing", x.lay(1, 0, 0), -11);
        x.lay(0, 1, 9);
        x.sheet(0, 2, 2);
        due("a new row is 0", x.read(0, 2, 0, 1), -20);
        x.lay(0, 1, 9);
        due("now it is whole", x.read(0, 2, 0, 1), 1);
    }

    private static void laying() {
        CHECK.promise(37);
        HandedDown x = new HandedDown();
        due("nothing", x.lay(3, 0, 1), -11);
        due("nothing ahead of index", x.lay(3, -1, 1), -11);
        due("k 4", x.lay(4, 0, 1), -1);
        due("k -1", x.lay(-1, 0, 1), -1);
        x.sheet(3, 1, 3);
        due("0", x.lay(3, 0, 1), 1);
        due("2", x.lay(3, 2, 1), 1);
        due("3", x.lay(3, 3, 1), -12);
        due("-1", x.lay(3, -1, 1), -12);
        due("max", x.lay(3, Integer.MAX_VALUE, 1), -12);
        due("min", x.lay(3, Integer.MIN_VALUE, 1), -12);
        x.sheet(3, 0, 0);
        due("of no cells", x.lay(3, 0, 1), -12);
        due("torn is read's alone", x.torn(), 0);
    }

    /** The size that is sewn of a cell in which v is laid; -20 where it is none. */
    private static int sizeOf(int lane, int v) {
        HandedDown x = new HandedDown();
        x.sheet(2, lane, 2);
        x.lay(2, 1, v);
        int came = x.read(2, lane, 0, 1);
        return came == 1 ? x.thing(0, 2) : came;
    }

    private static void lanes() {
        CHECK.promise(37);
        due("byte 256 + 7", sizeOf(0, 256 + 7), 7);
        due("byte 255", sizeOf(0, 255), -20);
        due("byte 128", sizeOf(0, 128), -20);
        due("byte -256 + 9", sizeOf(0, -256 + 9), 9);
        due("short 256 + 7", sizeOf(1, 256 + 7), -20);
        due("short 65536 + 7", sizeOf(1, 65536 + 7), 7);
        due("short 65535", sizeOf(1, 65535), -20);
        due("int 65536 + 7", sizeOf(2, 65536 + 7), -20);
        due("int 40", sizeOf(2, 40), 40);
        due("int 41", sizeOf(2, 41), -20);
        due("int min", sizeOf(2, Integer.MIN_VALUE), -20);
    }

    private static HandedDown sheetOf(int lane, int... cells) {
        HandedDown x = new HandedDown();
        x.sheet(1, lane, cells.length);
        for (int i = 0; i < cells.length; i++) {
            x.lay(1, i, cells[i]);
        }
        return x;
    }

    private static void reading() {
        CHECK.promise(38);
        HandedDown x = sheetOf(1, 0, 5, 1, 40, 0, 7);
        due("read 2", x.read(1, 1, 0, 2), 2);
        due("torn", x.torn(), 0);
        due("things", x.count(1), 2);
        int[] first = {0, 0, 5, 3, 0, 0, -4, -4};
        int[] second = {1, 0, 40, 3, 0, 0, -4, -4};
        for (int what = 0; what < 8; what++) {
            due("first " + what, x.thing(0, what), first[what]);
            due("second " + what, x.thing(1, what), second[what]);
        }
        due("from 4", x.read(1, 1, 4, 1), 1);
        due("size", x.thing(2, 2), 7);
        due("from 2", x.read(1, 1, 2, 2), 2);
        due("size", x.thing(3, 2) * 100 + x.thing(4, 2), 4007);
        x = sheetOf(0, 9, 0, 5, 1, 6);
        due("from 1", x.read(1, 0, 1, 2), 2);
        due("size", x.thing(1, 2), 6);
    }

    private static void readingPastTheEnd() {
        CHECK.promise(38);
        HandedDown x = sheetOf(2, 0, 5, 1, 6, 0);
        due("read 3", x.read(1, 2, 0, 3), 2);
        due("index", x.torn(), 2);
        due("things", x.count(1), 2);
        due("half of one", x.read(1, 2, 4, 1), 0);
        due("index", x.torn(), 2);
        due("at the end", x.read(1, 2, 5, 1), 0);
        due("index", x.torn(), 2);
        due("whole", x.read(1, 2, 2, 1), 1);
        due("none", x.torn(), 0);
        due("f -1", x.read(1, 2, -1, 2), 0);
        due("index", x.torn(), 2);
        due("f -2", x.read(1, 2, -2, 2), 0);
        due("f max", x.read(1, 2, Integer.MAX_VALUE, 2), 0);
        due("f min", x.read(1, 2, Integer.MIN_VALUE, 2), 0);
        due("f max - 1", x.read(1, 2, Integer.MAX_VALUE - 1, 10), 0);
        due("index", x.torn(), 2);
        due("things", x.count(1), 3);
        x = sheetOf(2, 0, 5, 7);
        due("half of a wrong one is no whole one", x.read(1, 2, 0, 2), 1);
        due("index", x.torn(), 2);
        x = sheetOf(2);
        due("no cells", x.read(1, 2, 0, 1), 0);
        due("index", x.torn(), 2);
    }

    private static void readingTheWrongWay() {
        CHECK.promise(38);
        HandedDown x = sheetOf(0, 0, 5);
        due("as shorts", x.read(1, 1, 0, 1), 0);
        due("cast", x.torn(), 3);
        due("as ints, from nowhere", x.read(1, 2, -5, 1), 0);
        due("cast", x.torn(), 3);
        due("nothing", x.read(0, 0, 0, 1), 0);
        due("null", x.torn(), 1);
        due("things", x.count(1), 0);
        due("right", x.read(1, 0, 0, 1), 1);
        due("none", x.torn(), 0);
        for (int lane = 0; lane < 3; lane++) {
            x = sheetOf(lane, 1, 9);
            for (int as = 0; as < 3; as++) {
                due("lane " + lane + " as " + as, x.read(1, as, 0, 1), lane == as ? 1 : 0);
                due("torn " + lane + " as " + as, x.torn(), lane == as ? 0 : 3);
            }
        }
    }

    private static void readingRefused() {
        CHECK.promise(38);
        HandedDown x = sheetOf(2, 0, 5, 2, 6, 0, 41);
        due("second", x.read(1, 2, 0, 3), -21);
        due("none came", x.count(1), 0);
        due("torn", x.torn(), 0);
        due("size 41", x.read(1, 2, 4, 1), -20);
        due("ahead of the end", x.read(1, 2, 2, 5), -20);
        x.read(0, 0, 0, 1);
        due("torn", x.torn(), 1);
        due("refused", x.read(1, 2, 0, 3), -21);
        due("refused leaves torn", x.torn(), 1);
        due("bad", x.read(1, 3, 0, 3), -1);
        due("bad leaves torn", x.torn(), 1);
        x = sheetOf(2, 0, 5, 0, 0);
        due("size 0", x.read(1, 2, 0, 2), -21);
        due("slot -1", x.lay(1, 2, -1) + x.read(1, 2, 0, 2), -20);
        due("none came", x.count(1), 0);
    }

    private static void readingFull() {
        CHECK.promise(38);
        HandedDown x = new HandedDown();
        x.sheet(2, 0, 40);
        for (int i = 0; i < 20; i++) {
            x.lay(2, 2 * i + 1, i + 1);
        }
        due("seven", x.read(2, 0, 0, 7), 7);
        due("three more are the most", x.read(2, 0, 0, 4), -23);
        due("none came", x.count(1), 7);
        due("three more", x.read(2, 0, 34, 3), 3);
        due("the last", x.thing(9, 2), 20);
        due("full", x.read(2, 0, 0, 1), -20);
        due("the end is met ahead", x.read(2, 0, 39, 1), 0);
        due("index", x.torn(), 2);
        x = new HandedDown();
        x.sheet(2, 0, 20);
        for (int i = 0; i < 10; i++) {
            x.lay(2, 2 * i + 1, i + 1);
        }
        due("ten", x.read(2, 0, 0, 10), 10);
        due("things", x.count(1), 10);
        // One wrong behind one for which there is no room: the first counts.
        x = new HandedDown();
        for (int i = 0; i < 9; i++) {
            x.sew(0, 5);
        }
        x.sheet(2, 0, 6);
        x.lay(2, 1, 5);
        x.lay(2, 3, 5);
        due("full is met", x.read(2, 0, 0, 3), -21);
    }

    private static void readingNone() {
        CHECK.promise(38);
        HandedDown x = sheetOf(2, 0, 5);
        x.read(0, 0, 0, 1);
        due("null", x.torn(), 1);
        due("none of a right one", x.read(1, 2, 0, 0), 0);
        due("no fault", x.torn(), 0);
        x.read(0, 0, 0, 1);
        due("none of nothing", x.read(0, 0, 0, 0), 0);
        due("no fault", x.torn(), 0);
        x.read(0, 0, 0, 1);
        due("none of another lane, from nowhere", x.read(1, 0, -7, 0), 0);
        due("no fault", x.torn(), 0);
    }

    private static void readBad() {
        CHECK.promise(38);
        HandedDown x = sheetOf(2, 0, 5);
        due("k 4", x.read(4, 2, 0, 1), -1);
        due("k -1", x.read(-1, 2, 0, 1), -1);
        due("lane 3", x.read(1, 3, 0, 1), -1);
        due("lane -1", x.read(1, -1, 0, 1), -1);
        due("n 11", x.read(1, 2, 0, 11), -1);
        due("n -1", x.read(1, 2, 0, -1), -1);
        due("lane 3 of none", x.read(1, 3, 0, 0), -1);
        due("k 4 of none", x.read(4, 2, 0, 0), -1);
        due("n 10", x.read(1, 2, 0, 10), 1);
    }

    private static void counts() {
        CHECK.promise(40);
        HandedDown x = Check.told("child 10 0 0;child 10 0 0;coat plain 10 1;coat turned 10 1;coat plain 10 9;mark 5;slack 4;");
        x.wear(0, 0);
        x.wear(1, 1);
        x.winter();
        x.keep(1);
        Check.tape(x, "coat");
        x.sheet(0, 1, 13);
        x.sheet(1, 1, 14);
        int[] want = {2, 3, 1, 1, 1, 4, 13, 4};
        for (int what = 0; what < 8; what++) {
            due("count " + what, x.count(what), want[what]);
        }
        int[] bad = {-1, 8, Integer.MAX_VALUE, Integer.MIN_VALUE};
        for (int what : bad) {
            due("count " + what, x.count(what), -1);
        }
    }
}
