/** Promises 17 to 20: winters, springs, years ahead. */
public final class YearsTest {
    private static final Check CHECK = new Check("YearsTest");

    public static void main(String[] args) {
        winters();
        springs();
        aheads();
        aheadLettingOut();
        strongs();
        CHECK.close();
    }

    private static void due(String call, long got, long want) {
        CHECK.due(call, got, want);
    }

    private static void winters() {
        CHECK.promise(17);
        HandedDown x = Check.told("child 10 0 0;child 10 0 0;coat plain 10 1;coat plain 10 2;coat plain 10 9;"
            + "boots turned 10 1;boots both 10 1;");
        x.wear(0, 0);
        x.wear(1, 1);
        x.wear(0, 3);
        x.wear(1, 4);
        due("winter", x.winter(), 1);
        due("worn out is off", x.child(0, 10), -4);
        due("the other stays on", x.child(1, 10), 1);
        due("wear", x.thing(1, 4), 1);
        due("not worn, no wear", x.thing(2, 4), 0);
        due("count", x.count(3), 1);
        due("winter", x.winter(), 3);
        due("count", x.count(3), 4);
        due("nobody wears anything", x.cold(0) + x.cold(1), 6);
        due("wear of turned", x.thing(3, 4), 2);
        due("winter", x.winter(), 0);
        due("wear stays", x.thing(0, 4), 1);
    }

    private static void springs() {
        CHECK.promise(18);
        HandedDown x = Check.told("child 10 1 3;child 38 0 4;coat plain 11 9;coat let 39 9;boots plain 13 9;");
        x.wear(0, 0);
        x.wear(1, 1);
        due("slow", x.spring(false), 0);
        due("size", x.child(0, 0), 11);
        due("size", x.child(1, 0), 38);
        x.wear(0, 2);
        due("quick", x.spring(true), 3);
        due("size", x.child(0, 0), 14);
        due("40 at most", x.child(1, 0), 40);
        due("taken off", x.cold(0), 3);
        due("taken off", x.cold(1), 3);
        due("not let out in spring", x.thing(1, 5), 0);
        due("could be", x.fits(1, 1), 2);
        due("again", x.spring(true), 0);
        due("40 still", x.child(1, 0), 40);
        x = Check.told("slack 4;child 10 0 0;coat plain 14 9;");
        x.wear(0, 0);
        x.slack(3);
        due("too large by now", x.spring(false), 1);
        x.slack(4);
        x.wear(0, 0);
        due("by today's slack", x.spring(false), 0);
    }

    private static void aheads() {
        CHECK.promise(19);
        HandedDown x = Check.told("child 10 1 2;child 9 1 2;coat plain 10 2;coat plain 12 9;boots plain 10 9;");
        // Slow: 10 and 9, 11 and 10 (thing 0 is worn out then), 12 and 11, 13 and 12.
        due("1", x.ahead(0, 1, false, 0), 0);
        due("2", x.ahead(0, 2, false, 0), 0);
        due("3", x.ahead(0, 3, false, 0), 1);
        due("4", x.ahead(0, 4, false, 0), 2);
        int[] slow = {0, 0, 1, 1};
        int[] quick = {0, 1, 2, 2};
        for (int k = 0; k < 4; k++) {
            due("slow " + k, x.ahead(0, 4, false, 10 + k), slow[k]);
        }
        // Quick: 10 and 9, 12 and 11, 14 and 13, 16 and 15.
        for (int k = 0; k < 4; k++) {
            due("quick " + k, x.ahead(0, 4, true, 10 + k), quick[k]);
        }
        due("boots", x.ahead(1, 4, false, 0), 6);
        due("boots quick", x.ahead(1, 4, true, 0), 7);
        due("nothing has changed", x.child(0, 0) * 100 + x.child(1, 0), 1009);
        due("nothing is put on", x.cold(0), 3);
        due("no wear", x.thing(0, 4), 0);
        for (int y = 1; y <= 4; y++) {
            due("y " + y + " k " + y, x.ahead(0, y, false, 10 + y), -1);
            due("y " + y + " k " + (y - 1), x.ahead(0, y, false, 9 + y), slow[y - 1]);
        }
        int[] bad = {-1, 1, 2, 9, 14, Integer.MAX_VALUE, Integer.MIN_VALUE};
        for (int what : bad) {
            due("what " + what, x.ahead(0, 4, false, what), -1);
        }
        due("y 0", x.ahead(0, 0, false, 0), -1);
        due("y 5", x.ahead(0, 5, false, 0), -1);
        due("s 2", x.ahead(2, 1, false, 0), -1);
        due("s -1", x.ahead(-1, 1, false, 0), -1);
    }

    private static void aheadLettingOut() {
        CHECK.promise(19);
        HandedDown x = Check.told("slack 0;child 10 1 2;coat let 10 9;");
        due("let out in the third", x.ahead(0, 4, false, 0), 2);
        due("let out in the second", x.ahead(0, 4, true, 0), 2);
        due("second", x.ahead(0, 4, true, 11), 0);
        due("not let out", x.thing(0, 5), 0);
        x = Check.told("slack 4;child 10 0 0;coat plain 10 3;");
        due("three winters", x.ahead(0, 3, true, 0), 0);
        due("worn out then", x.ahead(0, 4, true, 0), 1);
        x.wear(0, 0);
        x.winter();
        due("wear counts", x.ahead(0, 3, true, 0), 1);
        due("worn as it was", x.child(0, 10), 0);
    }

    private static void strongs() {
        CHECK.promise(20);
        HandedDown x = Check.told("child 10 0 0;coat plain 10 1;boots turned 10 1;");
        for (int y = 1; y <= 4; y++) {
            due("plain " + y, x.strong(0, y, true), y);
            due("turned " + y, x.strong(1, y, true), (y + 1) / 2);
        }
        x.wear(0, 0);
        x.winter();
        due("worn out, but for more", x.strong(0, 1, false), 2);
        due("worn out, but for more", x.strong(0, 4, false), 5);
        due("lasts as told", x.thing(0, 3), 1);
        x = Check.told("child 10 0 4;coat plain 10 1;child 30 0 0;coat plain 30 5;");
        due("those that have more keep it", x.strong(0, 4, false), 4);
        due("the other slot", x.strong(1, 4, false), -4);
        due("by no such one", x.strong(0, 2, true), -4);
        due("by no boots", x.strong(1, 1, true), -4);
        HandedDown z = Check.told("child 10 0 0;boots plain 10 8;");
        z.wear(0, 0);
        for (int i = 0; i < 8; i++) {
            z.winter();
        }
        due("9 winters in all", z.strong(1, 1, false), 9);
        due("10 are too many", z.strong(1, 2, false), -4);
        due("y 0", x.strong(0, 0, false), -1);
        due("y 5", x.strong(0, 5, false), -1);
        due("s 2", x.strong(2, 1, false), -1);
        due("s -1", x.strong(-1, 1, false), -1);
    }
}
