/** Promises 28 to 35: odds, marks and their rows, another village, images. */
public final class MarksTest {
    private static final Check CHECK = new Check("MarksTest");

    public static void main(String[] args) {
        odds();
        marks();
        rows();
        rowsOfAll();
        whose();
        lending();
        lendingKinds();
        images();
        imagesHoldAll();
        CHECK.close();
    }

    private static void due(String call, long got, long want) {
        CHECK.due(call, got, want);
    }

    private static void odds(HandedDown x, int s, long over, long under) {
        due("odds " + s, x.odds(s, 0), over);
        due("odds " + s + " by", x.odds(s, 1), under);
    }

    private static void odds() {
        CHECK.promise(28);
        HandedDown x = Check.told("child 10 1 3;child 10 0 2;coat plain 12 5;coat plain 13 5;");
        // 11 or 13, 10 or 12: of 12 and 13 each pair can have one each.
        odds(x, 0, 1, 1);
        odds(x, 1, 0, 1);
        x.slack(0);
        odds(x, 0, 1, 4);
        x.slack(1);
        odds(x, 0, 1, 2);
        due("nothing has grown", x.child(0, 0), 10);
        x = Check.told("child 10 2 2;coat plain 12 1;boots let 10 5;child 39 4 4;boots plain 40 5;coat kept 1 40 4;slack 0;");
        odds(x, 0, 1, 1);
        odds(x, 1, 1, 1);
        x.wear(1, 3);
        x.back(0);
        x = Check.told("slack 0;" + "child 5 0 1;".repeat(8) + "coat plain 5 5;".repeat(8) + "coat plain 6 5;");
        odds(x, 0, 9, 256);
        x.like(0, 0, 1);
        x.wear(0, 0);
        x.winter();
        odds(x, 0, 9, 256);
        due("s 2", x.odds(2, 0), -1);
        due("s -1", x.odds(-1, 0), -1);
        due("what 2", x.odds(0, 2), -1);
        due("what -1", x.odds(0, -1), -1);
    }

    private static void marks() {
        CHECK.promise(29);
        HandedDown x = new HandedDown();
        due("0", x.mark(0), -1);
        due("41", x.mark(41), -1);
        for (int i = 1; i <= 6; i++) {
            due("mark " + i, x.mark(i == 1 ? 40 : 1), i);
        }
        due("full", x.mark(5), -3);
        due("bad ahead of full", x.mark(41), -1);
        CHECK.promise(30);
        due("unmark -1", x.unmark(-1), -1);
        due("unmark 7", x.unmark(7), -1);
        due("unmark 6", x.unmark(6), 6);
        due("unmark 4", x.unmark(4), 6);
        due("unmark 5", x.unmark(5), -1);
        due("count", x.count(2), 4);
        due("mark", x.mark(9), 5);
        due("unmark 0", x.unmark(0), 5);
        due("unmark 0", x.unmark(0), 0);
        due("no marks", x.whose(0), -2);
    }

    private static void rows() {
        CHECK.promise(31);
        HandedDown x = Check.told("child 10 1 4;child 10 0 0;child 9 2 2;mark 11;mark 11;");
        // Mark 0: 10, 10, 9 all may; mark 1: 11, 10, 11 all may.
        due("rows", x.rows(0), 6);
        due("first", x.rows(10) * 10 + x.rows(11), 1);
        due("k 2", x.rows(12), -1);
        x.mark(13);
        // Mark 2: 12, 10 (not), 13.
        due("rows", x.rows(0), 4);
        due("first", x.rows(10), 0);
        due("second", x.rows(11), 1);
        due("third", x.rows(12), 2);
        x.slack(1);
        // Mark 0: 10, 10; mark 1: 11, 10, 11; mark 2: 12, 13.
        due("rows", x.rows(0), 3);
        x.slack(0);
        due("no row", x.rows(0), 0);
        due("no row", x.rows(10), -4);
        due("no row", x.rows(12), -4);
        due("k 3", x.rows(13), -1);
        due("what 1", x.rows(1), -1);
        due("what 9", x.rows(9), -1);
        due("what -1", x.rows(-1), -1);
        due("what max", x.rows(Integer.MAX_VALUE), -1);
        due("what min", x.rows(Integer.MIN_VALUE), -1);
        x = Check.told("child 40 4 4;child 38 4 4;mark 40;mark 40;slack 0;");
        due("40 at most", x.rows(0), 1);
        due("first", x.rows(10), 0);
        x.unmark(0);
        due("no marks: the row of nobody", x.rows(0), 1);
        due("no marks: no mark 0", x.rows(10), -1);
    }

    private static void rowsOfAll() {
        CHECK.promise(31);
        HandedDown z = Check.told("child 10 0 0;child 10 4 4;mark 10;mark 10;");
        due("only the other way", z.rows(0), 1);
        due("first", z.rows(10), 1);
        due("second", z.rows(11), 0);
        HandedDown x = Check.told("child 10 0 0;".repeat(8) + "mark 10;".repeat(6));
        due("8 7 6 5 4 3", x.rows(0), 20160);
        for (int k = 0; k < 6; k++) {
            due("first " + k, x.rows(10 + k), k);
        }
        due("all first", x.whose(0), 255);
        due("all last", x.whose(1), 255);
        x = Check.told("child 10 0 0;".repeat(5) + "mark 10;".repeat(6));
        due("more marks than children", x.rows(0), 0);
        due("nobody", x.whose(0), 0);
        due("nobody", x.whose(1), 0);
    }

    private static void whose() {
        CHECK.promise(32);
        HandedDown x = Check.told("child 10 0 0;child 10 4 4;child 12 0 0;mark 10;mark 14;");
        // First 0 or 1; last 1 or 2.
        due("first", x.whose(0), 3);
        due("last", x.whose(1), 6);
        x.unmark(1);
        due("one mark: first", x.whose(0), 3);
        due("one mark: last", x.whose(1), 3);
        x.mark(30);
        due("no row: first", x.whose(0), 0);
        due("no row: last", x.whose(1), 0);
        // The first mark can be both ones', but only child 1 leaves one for the second.
        x = Check.told("child 10 0 0;child 10 1 1;mark 10;mark 12;slack 2;");
        due("first", x.whose(0), 3);
        x.slack(1);
        due("first", x.whose(0), 1);
        due("last", x.whose(1), 2);
        due("what 2", x.whose(2), -1);
        due("what -1", x.whose(-1), -1);
        x.unmark(0);
        due("bad ahead of state", x.whose(2), -1);
        due("state", x.whose(1), -2);
    }

    private static void lending() {
        CHECK.promise(33);
        HandedDown x = Check.told("child 10 0 0;coat plain 10 5;coat plain 11 5;coat let 10 5;boots plain 30 5;");
        due("there is none", x.lend(0, 0, 0), -2);
        due("bad ahead of it", x.lend(0, 2, 0), -1);
        x.keep(0);
        Check.tell(x, "");
        due("images are gone", x.lend(0, 0, 0), -2);
        x = Check.told("child 10 0 0;coat plain 10 5;coat plain 11 5;coat let 10 5;boots plain 30 5;");
        x.keep(1);
        due("there is no image 0", x.lend(0, 0, 0), -2);
        due("none is needed", x.lend(1, 0, 0), 0);
        due("none is needed", x.lend(1, 0, 1), 0);
        due("boots that fit nobody", x.lend(1, 1, 0), 1);
        due("boots that fit nobody", x.lend(1, 1, 1), 0);
        x.wear(0, 0);
        for (int i = 0; i < 5; i++) {
            x.winter();
        }
        x.cut(1, 5);
        x.cut(2, 5);
        due("none here", x.deal(0, 1), 1);
        due("lent", x.lend(1, 0, 0), 0);
        due("one", x.lend(1, 0, 1), 1);
        due("k 2", x.lend(2, 0, 0), -1);
        due("k -1", x.lend(-1, 0, 0), -1);
        due("s 2", x.lend(1, 2, 0), -1);
        due("s -1", x.lend(1, -1, 0), -1);
        due("what 2", x.lend(1, 0, 2), -1);
        due("what -1", x.lend(1, 0, -1), -1);
    }

    private static void lendingKinds() {
        CHECK.promise(33);
        // The other village has five coats, one worn out, one of its child, one kept.
        HandedDown x = Check.told("child 20 4 4;coat plain 20 1;coat plain 20 5;coat let 22 5;coat kept 0 24 5;coat plain 24 5;");
        x.wear(0, 0);
        x.winter();
        x.keep(0);
        for (int t = 1; t < 5; t++) {
            x.cut(t, 1);
        }
        x.spring(true);
        // Here the child is 24: it could have the let one (22, by 2 more) and the last one.
        due("new", x.lend(0, 0, 0), 0);
        due("lent", x.lend(0, 0, 1), 1);
        x.slack(0);
        due("the slack is today's", x.lend(0, 0, 0), 0);
        x.slack(2);
        // Here nothing is left that fits but what the image's own deal takes, or keeps.
        HandedDown y = Check.told("child 20 0 4;coat plain 20 5;coat kept 0 24 5;");
        y.keep(0);
        y.cut(0, 1);
        y.cut(1, 1);
        due("new", y.lend(0, 0, 0), 1);
        due("lent", y.lend(0, 0, 1), 0);
        y.spring(true);
        due("kept ones not", y.lend(0, 0, 0), 1);
        // Two of the image's things and one here, the last of ten; boots this time.
        y = Check.told("child 18 4 4;child 18 4 4;child 18 4 4;boots let 24 5;boots plain 24 5;");
        y.keep(1);
        y.cut(0, 1);
        y.cut(1, 1);
        y.spring(false);
        for (int t = 2; t < 10; t++) {
            y.sew(1, t == 9 ? 22 : t);
        }
        due("all are warm", y.lend(1, 1, 0), 0);
        due("two are lent", y.lend(1, 1, 1), 2);
        due("no coats", y.lend(1, 0, 0), 3);
        y.slack(1);
        due("24 is too large", y.lend(1, 1, 0), 2);
        due("none is lent", y.lend(1, 1, 1), 0);
        y.slack(4);
        y.cut(9, 1);
        due("two are warm", y.lend(1, 1, 0), 1);
        due("two are lent", y.lend(1, 1, 1), 2);
        y.sheet(0, 0, 0);
        // By today's slack the image's own child takes what it would leave by another.
        y = Check.told("slack 4;child 10 4 4;coat plain 14 5;");
        y.keep(0);
        y.cut(0, 1);
        y.spring(false);
        due("the image's child has it", y.lend(0, 0, 0), 1);
        y.slack(3);
        due("the image's child can not", y.lend(0, 0, 0), 0);
        due("so it is lent", y.lend(0, 0, 1), 1);
        // Own things by today's slack.
        y = Check.told("slack 4;child 10 0 0;coat plain 14 5;coat plain 10 5;");
        y.keep(1);
        due("none is lent", y.lend(1, 0, 1), 0);
        y.cut(1, 9);
        due("none is lent still", y.lend(1, 0, 1), 0);
        due("nobody is cold", y.lend(1, 0, 0), 0);
        y.slack(2);
        due("now nobody is warm by the own one", y.lend(1, 0, 0), 1);
        // Coats are lent by the image's deal of coats, whatever boots there are.
        y = Check.told("child 10 2 2;coat plain 12 5;boots plain 12 5;boots plain 12 5;");
        y.keep(0);
        for (int t = 0; t < 3; t++) {
            y.cut(t, 1);
        }
        due("the image's child has the coat", y.lend(0, 0, 0), 1);
        due("one pair of boots is left", y.lend(0, 1, 0), 0);
        due("one pair of boots is lent", y.lend(0, 1, 1), 1);
        // The fewest: own things stay in use.
        y = Check.told("child 10 0 4;child 30 0 0;coat plain 14 5;coat plain 15 5;coat plain 30 5;coat plain 31 5;");
        y.keep(0);
        y.cut(3, 1);
        due("image leaves 0, 1, 3; child 0 is cold", y.lend(0, 0, 0), 1);
        due("none is lent", y.lend(0, 0, 1), 0);
        y.spring(true);
        due("own ones do", y.lend(0, 0, 1), 0);
        due("all are warm", y.lend(0, 0, 0), 0);
        y.cut(0, 1);
        y.cut(1, 1);
        due("one is lent", y.lend(0, 0, 1), 1);
        due("all are warm", y.lend(0, 0, 0), 0);
        due("nothing has come", y.count(1), 4);
    }

    private static void images() {
        CHECK.promise(35);
        HandedDown x = new HandedDown();
        due("back 0", x.back(0), -2);
        due("back 1", x.back(1), -2);
        due("back 2", x.back(2), -1);
        due("back -1", x.back(-1), -1);
        due("keep 2", x.keep(2), -1);
        due("keep -1", x.keep(-1), -1);
        due("keep 1", x.keep(1), 0);
        due("images", x.count(4), 1);
        due("keep 1", x.keep(1), 1);
        due("images", x.count(4), 1);
        x.sew(0, 5);
        due("keep 0", x.keep(0), 0);
        due("images", x.count(4), 2);
        due("back 1", x.back(1), 0);
        due("things", x.count(1), 0);
        due("back 0", x.back(0), 1);
        due("back 0", x.back(0), 1);
        due("things", x.count(1), 1);
    }

    private static void imagesHoldAll() {
        CHECK.promise(34);
        HandedDown x = Check.told("child 10 1 2;child 20 0 0;coat let 8 5;boots plain 10 5;like 0 1 7;mark 5;mark 6;slack 3;");
        x.wear(0, 1);
        x.winter();
        x.keep(0);
        x.wear(0, 0);
        x.spring(true);
        x.like(0, 1, 2);
        x.sew(0, 30);
        x.unmark(0);
        x.mark(30);
        x.slack(1);
        x.sheet(0, 2, 7);
        x.read(1, 0, 0, 1);
        Check.tape(x, "slack");
        due("back", x.back(0), 2);
        due("size", x.child(0, 0), 10);
        due("low", x.child(0, 1), 1);
        due("high", x.child(0, 2), 2);
        due("coat", x.child(0, 10), -4);
        due("boots", x.child(0, 11), 1);
        due("boots' wear", x.thing(1, 4), 1);
        due("not let out", x.thing(0, 5), 0);
        due("coat's size", x.thing(0, 2), 8);
        due("liking", x.like(0, 1, 7), 7);
        due("marks", x.count(2), 2);
        x.slack(4);
        due("the marks' sizes", x.rows(0), 0);
        x.unmark(0);
        x.mark(10);
        due("of mark 10", x.rows(0), 1);
        x.back(0);
        due("slack is not the image's", x.count(7), 4);
        due("tape stays", x.count(5), 5);
        due("sheets stay", x.count(6), 7);
        due("torn stays", x.torn(), 1);
        due("an image stays as it was", x.back(0), 2);
        // What is worn by an image's slack stays on, whether it fits now or not.
        x = Check.told("slack 4;child 10 0 0;coat plain 14 5;");
        x.wear(0, 0);
        x.keep(0);
        x.slack(0);
        x.doff(0, 0);
        x.back(0);
        due("worn", x.child(0, 10), 0);
        due("does not fit", x.fits(0, 0), 0);
        due("goes off in spring", x.spring(false), 1);
    }
}
