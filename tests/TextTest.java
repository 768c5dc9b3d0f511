/** Promises 1 to 9: a new object, the tape, the text and its faults, what it tells. */
public final class TextTest {
    private static final Check CHECK = new Check("TextTest");

    public static void main(String[] args) {
        newObject();
        feeding();
        ending();
        takenTexts();
        blanks();
        noTokens();
        misplacedTokens();
        outOfBounds();
        slackAgain();
        tooMany();
        missing();
        firstFaultCounts();
        refusedChangesNothing();
        takenTellsAll();
        children();
        things();
        slack();
        liking();
        CHECK.close();
    }

    private static void due(String call, long got, long want) {
        CHECK.due(call, got, want);
    }

    private static void newObject() {
        CHECK.promise(1);
        HandedDown x = new HandedDown();
        int[] counts = {0, 0, 0, 0, 0, 0, HandedDown.NONE, 2};
        for (int what = 0; what < counts.length; what++) {
            due("new count " + what, x.count(what), counts[what]);
        }
        due("new fault", x.fault(), 0);
        due("new torn", x.torn(), 0);
        due("new child", x.child(0, 0), -1);
        due("new thing", x.thing(0, 0), -1);
        due("new back", x.back(0), -2);
        due("new cold", x.cold(0), 0);
        due("new deal", x.deal(0, 0), 0);
        due("new winter", x.winter(), 0);
        due("new spring", x.spring(true), 0);
        due("new settle", x.settle(), 0);
        due("new swap", x.swap(), -4);
        due("new whose", x.whose(0), -2);
        due("new rows", x.rows(0), 1);
        due("new rows 10", x.rows(10), -1);
        due("new odds", x.odds(0, 0), 1);
        due("new odds 1", x.odds(0, 1), 1);
        due("new strong", x.strong(0, 4, true), 1);
        due("new wish", x.wish(0, 1, true, 0), 1);
        due("new best", x.best(0, 1, true, 0), -4);
        for (int k = 0; k < 4; k++) {
            due("new lay", x.lay(k, 0, 0), -11);
        }
        due("BAD", HandedDown.BAD, -1);
        due("STATE", HandedDown.STATE, -2);
        due("FULL", HandedDown.FULL, -3);
        due("NONE", HandedDown.NONE, -4);
    }

    private static void feeding() {
        CHECK.promise(2);
        HandedDown x = new HandedDown();
        for (int i = 1; i <= 50; i++) {
            due("feed " + i, x.feed(0x2020202020202020L), 8 * i);
        }
        due("feed 51", x.feed(0), -3);
        due("count after full", x.count(5), 400);
        due("end 393", x.end(393), 400);
        due("feed at 393", x.feed(0), -3);
        due("end 392", x.end(392), 393);
        due("feed at 392", x.feed(0), 400);
        due("a zero byte is no token", x.text(), -10 - 392);
        due("fault", x.fault(), 1);
        // The highest byte comes first: "mark 5 ;".
        due("feed mark", x.feed(0x6d61726b2035203bL), 8);
        due("text", x.text(), 1);
        due("a byte above 127", x.feed(0x8020202020202020L), 8);
        due("text", x.text(), -10);
        due("behind an odd end", x.feed(0x6d61726b20202020L), 8);
        due("end 5", x.end(5), 8);
        due("feed", x.feed(0x37203b2020202020L), 13);
        due("text", x.text(), 1);
        due("mark 7", x.count(2), 1);
    }

    private static void ending() {
        CHECK.promise(3);
        HandedDown x = new HandedDown();
        due("end 0 of nothing", x.end(0), 0);
        due("end 1 of nothing", x.end(1), -1);
        x.feed(0x6d61726b2035203bL);
        due("end -1", x.end(-1), -1);
        due("end 9", x.end(9), -1);
        due("end min", x.end(Integer.MIN_VALUE), -1);
        due("end max", x.end(Integer.MAX_VALUE), -1);
        due("count", x.count(5), 8);
        due("end 8", x.end(8), 8);
        due("end 4", x.end(4), 8);
        due("end 5", x.end(5), -1);
        due("count", x.count(5), 4);
    }

    private static void takenTexts() {
        CHECK.promise(4);
        HandedDown x = new HandedDown();
        CHECK.taken(x, "", 0);
        CHECK.taken(x, "        ", 0);
        CHECK.taken(x, "slack 0;", 1);
        due("slack", x.count(7), 0);
        CHECK.taken(x, "slack 4;", 1);
        due("slack", x.count(7), 4);
        CHECK.taken(x, "child 1 0 0;child 40 4 4;child 20 0 4;", 3);
        CHECK.taken(x, "coat plain 1 1;boots turned 40 9;coat let 2 2;boots both 3 3;child 1 1 1;coat kept 0 5 5;", 6);
        due("kinds", x.thing(0, 1) + 10 * x.thing(1, 1) + 100 * x.thing(2, 1) + 1000 * x.thing(3, 1)
            + 10000 * x.thing(4, 1), 43210);
        due("slots", x.thing(0, 0) + 10 * x.thing(1, 0) + 100 * x.thing(2, 0) + 1000 * x.thing(3, 0)
            + 10000 * x.thing(4, 0), 1010);
        CHECK.taken(x, "like 0 0 9;child 5 1 1;coat plain 5 5;like 0 0 4;", 4);
        due("the last liking counts", x.like(0, 0, 1), 4);
        CHECK.taken(x, "mark 1;mark 40;mark 05;mark 06;mark 7;mark 8;", 6);
        due("marks", x.count(2), 6);
        StringBuilder eight = new StringBuilder();
        for (int i = 0; i < 8; i++) {
            eight.append("child 9 0 0;");
        }
        for (int i = 0; i < 10; i++) {
            eight.append("coat plain 9 9;");
        }
        CHECK.taken(x, eight.toString(), 18);
    }

    private static void blanks() {
        CHECK.promise(4);
        HandedDown x = new HandedDown();
        CHECK.taken(x, "   slack   3   ;  mark5;mark 6 ;mark 07;   ", 4);
        CHECK.taken(x, "child1 2 3;coat plain4 5;coat kept0 4 5;like0 0 0;", 4);
        CHECK.refused(x, "child 112 3;", 1, 6);
        CHECK.refused(x, "coatplain 4 5;", 2, 0);
        CHECK.refused(x, "coat plain 35;", 2, 13);
        CHECK.taken(x, "child 5 1 1;coat kept0 4 5;", 2);
        CHECK.taken(x, "child 5 1 1;coat kept 00 04 05;", 2);
        CHECK.refused(x, "mark\t5;", 1, 4);
        CHECK.refused(x, "mark 5;\n", 1, 7);
    }

    private static void noTokens() {
        CHECK.promise(4);
        HandedDown x = new HandedDown();
        CHECK.refused(x, ".", 1, 0);
        CHECK.refused(x, "   .", 1, 3);
        CHECK.refused(x, "Slack 1;", 1, 0);
        CHECK.refused(x, "slAck 1;", 2, 0);
        CHECK.refused(x, "slack 1.", 1, 7);
        CHECK.refused(x, "slack -1;", 1, 6);
        CHECK.refused(x, "slack 001;", 1, 6);
        CHECK.refused(x, "slack 1234567890123456789;", 1, 6);
        CHECK.refused(x, "123", 1, 0);
        CHECK.refused(x, "coat .", 1, 5);
        CHECK.refused(x, "coat 123", 1, 5);
        CHECK.refused(x, "coat kept .", 1, 10);
        CHECK.refused(x, "child 5 " + (char) 233, 1, 8);
        CHECK.refused(x, "child 5 {", 1, 8);
        CHECK.refused(x, "child 5 `", 1, 8);
        CHECK.refused(x, "child 5 /", 1, 8);
        CHECK.refused(x, "child 5 :", 1, 8);
    }

    private static void misplacedTokens() {
        CHECK.promise(4);
        HandedDown x = new HandedDown();
        CHECK.refused(x, ";", 2, 0);
        CHECK.refused(x, "5", 2, 0);
        CHECK.refused(x, "plain", 2, 0);
        CHECK.refused(x, "z", 2, 0);
        CHECK.refused(x, "a 1;", 2, 0);
        CHECK.refused(x, "zlack 1;", 2, 0);
        CHECK.refused(x, "mark 9 z", 2, 7);
        CHECK.refused(x, "slacks 1;", 2, 0);
        CHECK.refused(x, "slac 1;", 2, 0);
        CHECK.refused(x, "slack", 2, 5);
        CHECK.refused(x, "slack   ", 2, 8);
        CHECK.refused(x, "slack ;", 2, 6);
        CHECK.refused(x, "slack slack", 2, 6);
        CHECK.refused(x, "slack 1", 2, 7);
        CHECK.refused(x, "slack 1 1;", 2, 8);
        CHECK.refused(x, "slack 1;;", 2, 8);
        CHECK.refused(x, "slack 1 mark 5;", 2, 8);
        CHECK.refused(x, "child", 2, 5);
        CHECK.refused(x, "child 5;", 2, 7);
        CHECK.refused(x, "child 5 1;", 2, 9);
        CHECK.refused(x, "child 5 1 1 1;", 2, 12);
        CHECK.refused(x, "coat", 2, 4);
        CHECK.refused(x, "coat ;", 2, 5);
        CHECK.refused(x, "coat 5 5;", 2, 5);
        CHECK.refused(x, "coat coat 5 5;", 2, 5);
        CHECK.refused(x, "coat kept;", 2, 9);
        CHECK.refused(x, "coat kept plain", 2, 10);
        CHECK.refused(x, "coat kept 1 5;", 2, 13);
        CHECK.refused(x, "boots plain 5;", 2, 13);
        CHECK.refused(x, "boots plain 5 5 5;", 2, 16);
        CHECK.refused(x, "like 0 0;", 2, 8);
        CHECK.refused(x, "like 0 0 0", 2, 10);
        CHECK.refused(x, "mark;", 2, 4);
        CHECK.refused(x, "mark 5 5;", 2, 7);
        CHECK.refused(x, "mark 5", 2, 6);
    }

    private static void outOfBounds() {
        CHECK.promise(4);
        HandedDown x = new HandedDown();
        CHECK.refused(x, "slack 5;", 3, 6);
        CHECK.refused(x, "child 0 1 1;", 3, 6);
        CHECK.refused(x, "child 41 1 1;", 3, 6);
        CHECK.refused(x, "child 5 5 5;", 3, 8);
        CHECK.refused(x, "child 5 1 5;", 3, 10);
        CHECK.refused(x, "child 5 3 2;", 3, 10);
        CHECK.refused(x, "coat plain 0 1;", 3, 11);
        CHECK.refused(x, "coat plain 41 1;", 3, 11);
        CHECK.refused(x, "coat plain 5 0;", 3, 13);
        CHECK.refused(x, "coat plain 5 10;", 3, 13);
        CHECK.refused(x, "coat kept 8 5 5;", 3, 10);
        CHECK.refused(x, "coat kept 7 0 5;", 3, 12);
        CHECK.refused(x, "like 8 0 0;", 3, 5);
        CHECK.refused(x, "like 7 10 0;", 3, 7);
        CHECK.refused(x, "like 7 9 10;", 3, 9);
        CHECK.refused(x, "mark 0;", 3, 5);
        CHECK.refused(x, "mark 41;", 3, 5);
    }

    private static void slackAgain() {
        CHECK.promise(4);
        HandedDown x = new HandedDown();
        CHECK.refused(x, "slack 1;slack 1;", 4, 8);
        CHECK.refused(x, "slack 1;mark 5;slack .", 4, 15);
        CHECK.refused(x, "slack 1;slack", 4, 8);
    }

    private static void tooMany() {
        CHECK.promise(4);
        HandedDown x = new HandedDown();
        String child = "child 5 1 1;";
        CHECK.refused(x, child.repeat(9), 5, 96);
        CHECK.refused(x, child.repeat(8) + "child .", 5, 96);
        CHECK.refused(x, "coat plain 5 5;".repeat(10) + "boots", 5, 150);
        CHECK.refused(x, "boots let 5 5;".repeat(10) + "coat", 5, 140);
        CHECK.refused(x, "mark 5;".repeat(7), 5, 42);
    }

    private static void missing() {
        CHECK.promise(4);
        HandedDown x = new HandedDown();
        CHECK.refused(x, "like 0 0 0;", 6, 11);
        CHECK.refused(x, "like 0 0 0;child 5 1 1;", 6, 23);
        CHECK.refused(x, "like 0 0 0;coat plain 5 5;", 6, 26);
        CHECK.refused(x, "coat kept 0 5 5; ", 6, 17);
        CHECK.refused(x, "child 5 1 1;coat kept 1 5 5;", 6, 28);
        CHECK.refused(x, "coat kept 7 5 5;" + "child 5 1 1;".repeat(7), 6, 100);
        CHECK.taken(x, "coat kept 7 5 5;" + "child 5 1 1;".repeat(8), 9);
        due("heir", x.thing(0, 6), 7);
        CHECK.refused(x, "like 7 9 1;" + "child 5 1 1;".repeat(8) + "coat let 5 5;".repeat(9), 6, 224);
        CHECK.taken(x, "like 7 9 1;" + "child 5 1 1;".repeat(8) + "coat let 5 5;".repeat(10), 19);
        due("liking", x.like(7, 9, 0), 1);
    }

    private static void firstFaultCounts() {
        CHECK.promise(4);
        HandedDown x = new HandedDown();
        CHECK.refused(x, "slack 9.", 3, 6);
        CHECK.refused(x, "coat kept 1 5 5;mark 0;", 3, 21);
        CHECK.refused(x, "coat kept 1 5 5;mark", 2, 20);
        CHECK.refused(x, "child 41 123 1;", 3, 6);
        CHECK.refused(x, "child 123 41 1;", 1, 6);
    }

    private static void refusedChangesNothing() {
        CHECK.promise(4);
        HandedDown x = Check.told("slack 3;child 5 1 2;coat plain 5 5;like 0 0 7;mark 9;");
        x.wear(0, 0);
        x.keep(0);
        CHECK.refused(x, "slack 1;child 6 1 1;child 7 1 1;coat let 5 5;mark 1;mark 2;.", 1, 59);
        due("children stay", x.count(0), 1);
        due("things stay", x.count(1), 1);
        due("marks stay", x.count(2), 1);
        due("images stay", x.count(4), 1);
        due("slack stays", x.count(7), 3);
        due("worn stays", x.child(0, 10), 0);
        due("size stays", x.child(0, 0), 5);
        due("kind stays", x.thing(0, 1), 0);
        due("liking stays", x.like(0, 0, 7), 7);
        due("mark stays", x.rows(0), 0);
    }

    private static void takenTellsAll() {
        CHECK.promise(4);
        HandedDown x = Check.told("slack 3;child 5 1 2;coat plain 5 5;like 0 0 7;mark 9;");
        x.wear(0, 0);
        x.winter();
        x.keep(0);
        x.keep(1);
        x.sheet(0, 0, 3);
        x.read(1, 0, 0, 1);
        CHECK.taken(x, "child 5 1 2;coat plain 5 5;", 2);
        due("nobody wears", x.child(0, 10), -4);
        due("nobody wears it", x.thing(0, 7), -4);
        due("wear", x.thing(0, 4), 0);
        due("liking", x.like(0, 0, 0), 0);
        due("marks", x.count(2), 0);
        due("images", x.count(4), 0);
        due("back", x.back(0), -2);
        due("sheets stay", x.count(6), 3);
        due("torn stays", x.torn(), 1);
        due("slack is as at first", x.count(7), 2);
        CHECK.taken(x, "", 0);
        due("no children", x.count(0), 0);
        due("no things", x.count(1), 0);
        x = Check.told("child 5 0 0;coat both 3 1;");
        x.wear(0, 0);
        due("let out", x.thing(0, 5), 1);
        CHECK.taken(x, "child 5 0 0;coat let 3 1;", 2);
        due("not let out", x.thing(0, 5), 0);
        CHECK.refused(x, ".", 1, 0);
        CHECK.taken(x, "", 0);
    }

    private static void children() {
        CHECK.promise(6);
        HandedDown x = Check.told("child 11 1 3;child 12 0 4;coat plain 11 2;boots plain 12 3;");
        due("size", x.child(0, 0), 11);
        due("low", x.child(0, 1), 1);
        due("high", x.child(0, 2), 3);
        due("size", x.child(1, 0), 12);
        due("low", x.child(1, 1), 0);
        due("high", x.child(1, 2), 4);
        due("coat", x.child(0, 10), -4);
        x.wear(0, 0);
        x.wear(1, 1);
        due("coat", x.child(0, 10), 0);
        due("boots", x.child(0, 11), -4);
        due("boots", x.child(1, 11), 1);
        due("coat", x.child(1, 10), -4);
        int[] bad = {-1, 3, 9, 12, Integer.MAX_VALUE, Integer.MIN_VALUE};
        for (int what : bad) {
            due("child 0 " + what, x.child(0, what), -1);
        }
        due("child 2", x.child(2, 0), -1);
        due("child -1", x.child(-1, 0), -1);
        due("child max", x.child(Integer.MAX_VALUE, 0), -1);
    }

    private static void things() {
        CHECK.promise(7);
        HandedDown x = Check.told("child 11 1 3;child 4 0 0;coat turned 11 2;boots kept 1 12 3;boots both 9 1;");
        int[][] want = {{0, 1, 11, 2, 0, 0, -4, -4}, {1, 4, 12, 3, 0, 0, 1, -4}, {1, 3, 9, 1, 0, 0, -4, -4}};
        for (int t = 0; t < 3; t++) {
            for (int what = 0; what < 8; what++) {
                due("thing " + t + " " + what, x.thing(t, what), want[t][what]);
            }
        }
        x.wear(0, 2);
        due("let out", x.thing(2, 5), 1);
        due("size by letting out", x.thing(2, 2), 11);
        due("worn by", x.thing(2, 7), 0);
        x.winter();
        due("wear", x.thing(2, 4), 1);
        due("lasts as told", x.thing(2, 3), 1);
        int[] bad = {-1, 8, 10, Integer.MAX_VALUE, Integer.MIN_VALUE};
        for (int what : bad) {
            due("thing 0 " + what, x.thing(0, what), -1);
        }
        due("thing 3", x.thing(3, 0), -1);
        due("thing -1", x.thing(-1, 0), -1);
    }

    private static void slack() {
        CHECK.promise(8);
        HandedDown x = Check.told("child 10 0 0;coat plain 14 5;");
        due("fits at 2", x.fits(0, 0), 0);
        due("slack 4", x.slack(4), 2);
        due("fits at 4", x.fits(0, 0), 1);
        due("slack 0", x.slack(0), 4);
        due("slack -1", x.slack(-1), -1);
        due("slack 5", x.slack(5), -1);
        due("slack stays", x.slack(1), 0);
        due("count", x.count(7), 1);
        x.slack(4);
        x.wear(0, 0);
        x.slack(0);
        due("what is worn stays on", x.child(0, 10), 0);
    }

    private static void liking() {
        CHECK.promise(9);
        HandedDown x = Check.told("child 10 0 0;child 9 0 0;coat plain 14 5;coat plain 9 9;like 1 0 3;");
        due("like", x.like(1, 0, 9), 3);
        due("like", x.like(1, 0, 0), 9);
        due("like", x.like(1, 0, 0), 0);
        due("another child's", x.like(0, 0, 5), 0);
        due("another thing's", x.like(1, 1, 6), 0);
        due("like", x.like(0, 1, 0), 0);
        due("like", x.like(0, 0, 0), 5);
        due("like", x.like(1, 1, 0), 6);
        due("v 10", x.like(0, 0, 10), -1);
        due("v -1", x.like(0, 0, -1), -1);
        due("c 2", x.like(2, 0, 1), -1);
        due("c -1", x.like(-1, 0, 1), -1);
        due("t 2", x.like(0, 2, 1), -1);
        due("t -1", x.like(0, -1, 1), -1);
    }
}
