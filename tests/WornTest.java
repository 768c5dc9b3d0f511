/** Promises 10 to 16: what fits, what is put on and taken off, deals. */
public final class WornTest {
    private static final Check CHECK = new Check("WornTest");

    public static void main(String[] args) {
        fitting();
        fittingKinds();
        puttingOn();
        puttingOnAgain();
        takingOff();
        cold();
        deals();
        dealsInOrder();
        dressing();
        sparing();
        CHECK.close();
    }

    private static void due(String call, long got, long want) {
        CHECK.due(call, got, want);
    }

    private static void fitting() {
        CHECK.promise(10);
        for (int slack = 0; slack <= 4; slack++) {
            HandedDown x = Check.told("child 20 0 0;coat plain 20 5;");
            x.slack(slack);
            for (int size = 30; size >= 10; size--) {
                HandedDown y = Check.told("child 20 0 0;coat plain " + size + " 5;coat let " + size + " 5;");
                y.slack(slack);
                boolean asIs = size >= 20 && size <= 20 + slack;
                boolean letOut = size + 2 >= 20 && size + 2 <= 20 + slack;
                due("plain " + size, y.fits(0, 0), asIs ? 1 : 0);
                due("let " + size, y.fits(0, 1), asIs ? 1 : letOut ? 2 : 0);
            }
        }
        HandedDown x = Check.told("child 20 0 0;coat plain 20 5;");
        due("c 1", x.fits(1, 0), -1);
        due("c -1", x.fits(-1, 0), -1);
        due("t 1", x.fits(0, 1), -1);
        due("t -1", x.fits(0, -1), -1);
    }

    private static void fittingKinds() {
        CHECK.promise(10);
        HandedDown x = Check.told("child 20 0 0;child 20 0 0;coat plain 18 1;coat turned 18 1;coat let 18 1;"
            + "coat both 18 1;coat kept 1 18 1;coat kept 1 20 1;boots turned 20 1;boots both 20 1;boots plain 20 1;");
        int[] first = {0, 0, 2, 2, 0, 0, 1, 1, 1};
        int[] second = {0, 0, 2, 2, 0, 1, 1, 1, 1};
        for (int t = 0; t < first.length; t++) {
            due("child 0 thing " + t, x.fits(0, t), first[t]);
            due("child 1 thing " + t, x.fits(1, t), second[t]);
        }
        x.wear(0, 2);
        due("let out, as it is", x.fits(1, 2), 1);
        x.cut(2, 19);
        due("worn ones are not cut", x.thing(2, 2), 20);
        x.doff(0, 0);
        x.cut(2, 18);
        due("let out once alone", x.fits(0, 2), 0);
        x.wear(0, 6);
        x.wear(1, 8);
        x.winter();
        due("plain is worn out", x.fits(0, 8), 0);
        due("turned lasts twice", x.fits(0, 6), 1);
        x.winter();
        due("turned is worn out", x.fits(0, 6), 0);
        x.wear(0, 7);
        x.winter();
        due("both lasts twice", x.fits(0, 7), 1);
        x.winter();
        due("both is worn out", x.fits(0, 7), 0);
        x = Check.told("child 40 4 4;coat let 39 5;coat let 38 5;slack 0;");
        due("41 of 40", x.fits(0, 0), 0);
        due("40 of 38", x.fits(0, 1), 2);
        x.slack(1);
        due("wear", x.wear(0, 0), -4);
        due("41", x.thing(0, 2), 41);
    }

    private static void puttingOn() {
        CHECK.promise(11);
        HandedDown x = Check.told("child 20 0 0;child 19 0 0;coat plain 20 5;coat plain 21 5;coat let 18 5;"
            + "boots plain 20 5;coat plain 9 9;");
        due("wear", x.wear(0, 0), -4);
        due("boots", x.wear(0, 3), -4);
        due("another", x.wear(0, 1), 0);
        due("thing 0 is off", x.thing(0, 7), -4);
        due("boots stay on", x.child(0, 11), 3);
        due("from another", x.wear(1, 1), -4);
        due("who had it", x.child(0, 10), -4);
        due("who has it", x.child(1, 10), 1);
        due("let out", x.wear(0, 2), -4);
        due("let out", x.thing(2, 5), 1);
        due("its size", x.thing(2, 2), 20);
        due("fits as it is", x.wear(1, 0), 1);
        due("not let out", x.thing(0, 5), 0);
        due("size stays", x.thing(0, 2), 20);
        due("too small", x.wear(0, 4), -2);
        due("still on", x.child(0, 10), 2);
        due("c 2", x.wear(2, 0), -1);
        due("c -1", x.wear(-1, 0), -1);
        due("t 5", x.wear(0, 5), -1);
        due("t -1", x.wear(0, -1), -1);
    }

    private static void puttingOnAgain() {
        CHECK.promise(11);
        HandedDown x = Check.told("child 20 0 0;coat let 20 5;");
        x.wear(0, 0);
        due("the same again", x.wear(0, 0), 0);
        due("still on", x.child(0, 10), 0);
        due("not let out", x.thing(0, 5), 0);
        x = Check.told("slack 4;child 20 0 0;coat plain 24 5;");
        x.wear(0, 0);
        x.slack(1);
        due("fits no more", x.wear(0, 0), -2);
        due("but stays on", x.child(0, 10), 0);
    }

    private static void takingOff() {
        CHECK.promise(12);
        HandedDown x = Check.told("child 20 0 0;coat plain 20 5;boots plain 20 5;");
        due("nothing", x.doff(0, 0), -4);
        x.wear(0, 0);
        x.wear(0, 1);
        due("coat", x.doff(0, 0), 0);
        due("coat is off", x.child(0, 10), -4);
        due("boots are on", x.child(0, 11), 1);
        due("again", x.doff(0, 0), -4);
        due("boots", x.doff(0, 1), 1);
        due("c 1", x.doff(1, 0), -1);
        due("c -1", x.doff(-1, 0), -1);
        due("s 2", x.doff(0, 2), -1);
        due("s -1", x.doff(0, -1), -1);
    }

    private static void cold() {
        CHECK.promise(13);
        HandedDown x = Check.told("child 20 0 0;".repeat(3) + "coat plain 20 5;boots plain 20 5;");
        due("all", x.cold(0), 7);
        x.wear(1, 0);
        x.wear(2, 1);
        due("coats", x.cold(0), 5);
        due("boots", x.cold(1), 3);
        due("s 2", x.cold(2), -1);
        due("s -1", x.cold(-1), -1);
    }

    private static void deals() {
        CHECK.promise(14);
        HandedDown x = Check.told("child 10 0 0;child 12 0 0;child 30 0 0;"
            + "coat plain 12 5;coat plain 10 5;boots plain 30 5;coat plain 9 9;");
        due("warm", x.deal(0, 0), 2);
        due("new", x.deal(0, 1), 1);
        due("child 0 leaves thing 0 to child 1", x.deal(0, 10), 1);
        due("child 1", x.deal(0, 11), 0);
        due("child 2", x.deal(0, 12), -4);
        due("boots", x.deal(1, 0), 1);
        due("boots new", x.deal(1, 1), 2);
        due("boots 2", x.deal(1, 12), 2);
        due("nothing is put on", x.cold(0), 7);
        due("c 3", x.deal(0, 13), -1);
        int[] bad = {-1, 2, 9, Integer.MIN_VALUE, Integer.MAX_VALUE};
        for (int what : bad) {
            due("what " + what, x.deal(0, what), -1);
        }
        due("s 2", x.deal(2, 0), -1);
        due("s -1", x.deal(-1, 0), -1);
        x.wear(1, 1);
        due("s 1 stays bad", x.deal(3, 10), -1);
    }

    private static void dealsInOrder() {
        CHECK.promise(14);
        HandedDown x = Check.told("child 10 0 0;child 10 0 0;child 10 0 0;coat plain 11 5;coat plain 10 5;");
        due("the first are warm", x.deal(0, 10), 0);
        due("the first are warm", x.deal(0, 11), 1);
        due("nothing last", x.deal(0, 12), -4);
        // Child 0 alone could have thing 2, so that all three are warm.
        x = Check.told("child 10 0 0;child 9 0 0;child 9 0 0;coat plain 10 5;coat plain 11 5;coat plain 12 5;");
        due("warm", x.deal(0, 0), 3);
        due("child 0", x.deal(0, 10), 2);
        due("child 1", x.deal(0, 11), 0);
        due("child 2", x.deal(0, 12), 1);
        // Child 0 has the first, though child 1 is cold for it: child 2 is warm by the other.
        x = Check.told("child 12 0 0;child 10 0 0;child 14 0 0;coat plain 12 5;coat plain 14 5;");
        due("warm", x.deal(0, 0), 2);
        due("child 0", x.deal(0, 10), 0);
        due("child 1", x.deal(0, 11), -4);
        due("child 2", x.deal(0, 12), 1);
        // What is kept for a child, or can be let out, counts too.
        x = Check.told("child 10 0 0;child 10 0 0;coat kept 1 10 5;coat let 8 5;");
        due("let", x.deal(0, 10), 1);
        due("kept", x.deal(0, 11), 0);
        // What others wear is dealt all the same.
        x.wear(0, 1);
        due("let", x.deal(0, 10), 1);
        due("kept", x.deal(0, 11), 0);
        x.doff(0, 0);
        // By today's slack.
        x = Check.told("slack 4;child 10 0 0;child 10 0 0;coat plain 14 5;coat plain 13 5;coat plain 12 5;");
        due("child 0", x.deal(0, 10), 0);
        due("child 1", x.deal(0, 11), 1);
        due("spare", x.spare(0), 4);
        due("dress", x.dress(0), 0);
        due("child 0", x.child(0, 10), 0);
        x.slack(3);
        due("child 0", x.deal(0, 10), 1);
        due("spare", x.spare(0), 1);
        // Somebody else must be cold, if the first can be warm by it.
        x = Check.told("child 10 0 0;child 11 0 0;child 9 0 0;coat plain 11 5;");
        due("child 0", x.deal(0, 10), 0);
        due("child 1", x.deal(0, 11), -4);
        due("child 2", x.deal(0, 12), -4);
    }

    private static void dressing() {
        CHECK.promise(15);
        HandedDown x = Check.told("child 10 0 0;child 10 0 0;coat plain 10 5;coat let 8 5;coat plain 12 5;boots plain 10 5;");
        x.wear(0, 2);
        x.wear(0, 3);
        due("dress", x.dress(0), 0);
        due("child 0", x.child(0, 10), 0);
        due("child 1", x.child(1, 10), 1);
        due("let out", x.thing(1, 5), 1);
        due("let out", x.thing(1, 2), 10);
        due("taken off", x.thing(2, 7), -4);
        due("boots stay", x.child(0, 11), 3);
        due("boots", x.dress(1), 1);
        x.slack(0);
        due("dress again", x.dress(0), 0);
        x = Check.told("child 10 0 0;coat plain 14 5;");
        x.slack(4);
        x.wear(0, 0);
        x.slack(2);
        due("what does not fit goes off", x.dress(0), 1);
        due("off", x.child(0, 10), -4);
        due("s 2", x.dress(2), -1);
        due("s -1", x.dress(-1), -1);
    }

    private static void sparing() {
        CHECK.promise(16);
        HandedDown x = Check.told("child 10 0 0;coat plain 9 5;coat plain 10 1;coat plain 11 1;boots plain 10 5;coat kept 0 30 5;");
        due("coats", x.spare(0), 1 + 4 + 16);
        due("boots", x.spare(1), 0);
        x.wear(0, 1);
        due("as dealt, whoever wears what", x.spare(0), 1 + 4 + 16);
        x.winter();
        due("worn out", x.spare(0), 1 + 16);
        x.wear(0, 2);
        x.winter();
        due("both worn out", x.spare(0), 1 + 16);
        due("s 2", x.spare(2), -1);
        due("s -1", x.spare(-1), -1);
    }
}
