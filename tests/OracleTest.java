import java.util.Random;

/** Runs of at most 512 calls, the class against the oracle; the seeds are fixed. */
public final class OracleTest {
    private static final Check CHECK = new Check("OracleTest");
    private static final int RUNS = 3000;
    /** No step makes as many calls as are left to 512 behind this. */
    private static final int LAST_STEP = 300;

    private final Random random;
    private final HandedDown x = new HandedDown();
    private final Oracle o = new Oracle();
    private final int run;
    /** Bodies lie near this size, so that much fits. */
    private final int around;
    /** What most steps of the run are about. */
    private final int theme;
    private String last = "";
    private int calls = 0;
    private boolean allIsNew = false;

    private OracleTest(int run) {
        this.run = run;
        random = new Random(7919L * run + 13);
        around = 1 + random.nextInt(40);
        theme = random.nextInt(9);
    }

    public static void main(String[] args) {
        int runs = args.length > 0 ? Integer.parseInt(args[0]) : RUNS;
        int first = args.length > 1 ? Integer.parseInt(args[1]) : 0;
        for (int run = first; run < first + runs; run++) {
            new OracleTest(run).go();
        }
        CHECK.close();
    }

    private void go() {
        tell(random.nextInt(4) == 0);
        while (calls < LAST_STEP) {
            step();
        }
        if (calls > 512) {
            throw new IllegalStateException("run " + run + " has " + calls + " calls");
        }
    }

    private void due(String call, long got, long want) {
        CHECK.due("run " + run + " " + call + " behind " + last, got, want);
        last = call;
        calls++;
    }

    private int upTo(int n) {
        return random.nextInt(n);
    }

    /** Mostly 0 to n-1, at times just outside, seldom wild. */
    private int about(int n) {
        int r = upTo(60);
        if (r == 0) {
            return -1 - upTo(3);
        }
        if (r == 1) {
            return n + upTo(3);
        }
        if (r == 2) {
            return random.nextInt();
        }
        return r == 3 ? (random.nextBoolean() ? Integer.MAX_VALUE : Integer.MIN_VALUE) : upTo(n);
    }

    private int c() {
        return about(Math.max(1, o.w.kids.size()));
    }

    private int t() {
        return about(Math.max(1, o.w.items.size()));
    }

    private int s() {
        return about(2);
    }

    private int y() {
        return upTo(50) == 0 ? about(7) - 1 : 1 + upTo(4);
    }

    private int size() {
        return upTo(40) == 0 ? about(43) : Math.max(1, Math.min(40, around + upTo(9) - 3));
    }

    // ---- texts

    private String line() {
        switch (upTo(14)) {
            case 0: return "slack " + upTo(5);
            case 1: case 2: case 3: case 4:
                int low = upTo(3);
                return "child " + size() + " " + low + " " + Math.min(4, low + upTo(3));
            case 5: case 6: case 7: case 8: case 9: return thingLine(4);
            case 10: case 11: return "like " + upTo(5) + " " + upTo(6) + " " + upTo(10);
            default: return "mark " + size();
        }
    }

    private String thingLine(int heirs) {
        String kind = new String[] {"plain", "turned", "let", "both", "kept " + upTo(heirs)}[upTo(5)];
        return (random.nextBoolean() ? "coat " : "boots ") + kind + " " + size() + " " + (1 + upTo(upTo(2) == 0 ? 3 : 9));
    }

    private String wholeText() {
        StringBuilder text = new StringBuilder();
        int kids = 1 + upTo(8);
        for (int i = 0; i < kids; i++) {
            int low = upTo(3);
            text.append("child ").append(size()).append(' ').append(low).append(' ')
                .append(Math.min(4, low + upTo(3))).append(";");
        }
        int things = 1 + upTo(10);
        for (int i = 0; i < things; i++) {
            text.append(thingLine(kids)).append(";");
        }
        int rest = upTo(4);
        for (int i = 0; i < rest; i++) {
            text.append("like ").append(upTo(kids)).append(' ').append(upTo(things)).append(' ').append(upTo(10)).append(';');
            text.append("mark ").append(size()).append(';');
        }
        return text.toString();
    }

    private String oddText() {
        StringBuilder text = new StringBuilder();
        int lines = upTo(3) == 0 ? 15 + upTo(15) : upTo(10);
        for (int i = 0; i < lines; i++) {
            text.append(line()).append(upTo(3) == 0 ? " ; " : ";");
        }
        int changes = upTo(3);
        for (int i = 0; i < changes && text.length() > 0; i++) {
            int at = upTo(text.length());
            String signs = "  ;;0123456789abcdehiklnoprstu.AZ{/:`\n" + (char) 200;
            switch (upTo(3)) {
                case 0: text.deleteCharAt(at); break;
                case 1: text.insert(at, signs.charAt(upTo(signs.length()))); break;
                default: text.setCharAt(at, signs.charAt(upTo(signs.length())));
            }
        }
        return text.length() > 400 ? text.substring(0, 400) : text.toString();
    }

    private void tell(boolean odd) {
        String signs = odd ? oddText() : wholeText();
        if (signs.length() > 400) {
            signs = signs.substring(0, 400);
            signs = signs.substring(0, signs.lastIndexOf(';') + 1);
        }
        due("end(0)", x.end(0), o.end(0));
        for (int at = 0; at < signs.length(); at += 8) {
            long v = 0;
            for (int i = at; i < at + 8; i++) {
                v = v << 8 | (i < signs.length() ? signs.charAt(i) : 32);
            }
            due("feed", x.feed(v), o.feed(v));
        }
        due("end", x.end(signs.length()), o.end(signs.length()));
        due("text '" + signs + "'", x.text(), o.text());
        due("fault", x.fault(), o.fault());
        allIsNew = true;
    }

    /** Most of what can be asked of what stands, the likings of one child alone. */
    private void state() {
        for (int what = 0; what < 8; what++) {
            due("count " + what, x.count(what), o.count(what));
        }
        for (int c = 0; c < o.w.kids.size(); c++) {
            for (int what : new int[] {0, 1, 2, 10, 11}) {
                due("child " + c + " " + what, x.child(c, what), o.child(c, what));
            }
        }
        int one = o.w.kids.isEmpty() ? 0 : upTo(o.w.kids.size());
        for (int t = 0; t < o.w.items.size() && !o.w.kids.isEmpty(); t++) {
            int v = o.w.kids.get(one).likes[t];
            due("like " + one + " " + t, x.like(one, t, v), v);
            due("fits " + one + " " + t, x.fits(one, t), o.fits(one, t));
        }
        for (int t = 0; t < o.w.items.size(); t++) {
            for (int what = 0; what < 8; what++) {
                due("thing " + t + " " + what, x.thing(t, what), o.thing(t, what));
            }
        }
        due("torn", x.torn(), o.torn());
    }

    // ---- calls

    private void step() {
        switch (upTo(3) > 0 ? theme : upTo(9)) {
            case 0: wearing(); break;
            case 1: years(); break;
            case 2: cutting(); break;
            case 3: swapping(); break;
            case 4: marking(); break;
            case 5: imaging(); break;
            case 6: sheeting(); break;
            case 7: telling(); break;
            default: asking();
        }
        if (allIsNew || upTo(40) == 0) {
            allIsNew = false;
            state();
        }
    }

    private void wearing() {
        int c = c();
        int t = t();
        int s = s();
        switch (upTo(6)) {
            case 0: due("dress " + s, x.dress(s), o.dress(s)); break;
            case 1: due("doff " + c + " " + s, x.doff(c, s), o.doff(c, s)); break;
            default: due("wear " + c + " " + t, x.wear(c, t), o.wear(c, t));
        }
        due("cold " + s, x.cold(s), o.cold(s));
    }

    private void years() {
        int s = s();
        int y = y();
        boolean quick = random.nextBoolean();
        int what = upTo(3) == 0 ? 0 : 9 + about(7);
        switch (upTo(6)) {
            case 0: due("winter", x.winter(), o.winter()); break;
            case 1:
                if (upTo(3) == 0) {
                    due("spring " + quick, x.spring(quick), o.spring(quick));
                }
                break;
            case 2: due("strong " + s + " " + y + quick, x.strong(s, y, quick), o.strong(s, y, quick)); break;
            default: due("ahead " + s + " " + y + quick + what, x.ahead(s, y, quick, what), o.ahead(s, y, quick, what));
        }
    }

    private void cutting() {
        int t = t();
        int s = s();
        int y = y();
        int size = size();
        boolean quick = random.nextBoolean();
        int what = about(2);
        switch (upTo(12)) {
            case 0: due("cut " + t + " " + size, x.cut(t, size), o.cut(t, size)); break;
            case 1:
                due("sew " + s + " " + size, x.sew(s, size), o.sew(s, size));
                break;
            case 2: case 3: case 4: case 5:
                due("pays " + t + " " + y + quick + what, x.pays(t, y, quick, what), o.pays(t, y, quick, what));
                break;
            case 6: due("best " + s + " " + y + quick + what, x.best(s, y, quick, what), o.best(s, y, quick, what)); break;
            case 7: due("wish " + s + " " + y + quick + what, x.wish(s, y, quick, what), o.wish(s, y, quick, what)); break;
            default: break;
        }
    }

    private void swapping() {
        int c = c();
        int t = t();
        int s = s();
        int v = about(10);
        if (upTo(8) == 0) {
            due("dress " + s, x.dress(s), o.dress(s));
        }
        due("wear " + c + " " + t, x.wear(c, t), o.wear(c, t));
        due("like " + c + " " + t + " " + v, x.like(c, t, v), o.like(c, t, v));
        wantEachOthers(upTo(2));
        due("swap", x.swap(), o.swap());
        if (upTo(4) == 0) {
            due("settle", x.settle(), o.settle());
        }
    }

    /** Two children who wear something come to like the other's, if they are found. */
    private void wantEachOthers(int s) {
        if (o.w.kids.isEmpty()) {
            return;
        }
        int a = upTo(o.w.kids.size());
        int b = upTo(o.w.kids.size());
        int mine = o.w.kids.get(a).wears[s];
        int yours = o.w.kids.get(b).wears[s];
        if (mine >= 0 && yours >= 0) {
            int v = 3 + upTo(7);
            due("like " + a + " " + yours + " " + v, x.like(a, yours, v), o.like(a, yours, v));
            due("like " + b + " " + mine + " " + v, x.like(b, mine, v), o.like(b, mine, v));
        }
    }

    private void marking() {
        int size = size();
        int n = about(Math.max(1, o.w.marks.size() + 1));
        int what = upTo(3) == 0 ? 0 : 9 + about(8);
        int which = about(2);
        switch (upTo(6)) {
            case 0: case 1: due("mark " + size, x.mark(size), o.mark(size)); break;
            case 2: due("unmark " + n, x.unmark(n), o.unmark(n)); break;
            default:
                due("rows " + what, x.rows(what), o.rows(what));
                due("whose " + which, x.whose(which), o.whose(which));
        }
        int slack = about(5);
        if (upTo(4) == 0) {
            due("slack " + slack, x.slack(slack), o.slack(slack));
        }
    }

    private void imaging() {
        int k = about(2);
        int s = s();
        int what = about(2);
        switch (upTo(8)) {
            case 0: due("keep " + k, x.keep(k), o.keep(k)); break;
            case 1: due("back " + k, x.back(k), o.back(k)); allIsNew = true; break;
            default: due("lend " + k + " " + s + " " + what, x.lend(k, s, what), o.lend(k, s, what));
        }
    }

    private void sheeting() {
        int k = upTo(4) == 0 ? about(4) : 0;
        int lane = upTo(4) == 0 ? about(3) : run % 3;
        int i = about(12);
        int v = upTo(12) == 0 ? random.nextInt() : i % 2 == 0 ? upTo(2) : size();
        int n = upTo(3);
        switch (upTo(16)) {
            case 0:
                int cells = upTo(20) == 0 ? about(44) : 4 + upTo(10);
                due("sheet " + k + " " + lane + " " + cells, x.sheet(k, lane, cells), o.sheet(k, lane, cells));
                break;
            case 1: case 2: case 3: case 4: case 5: case 6: case 7: case 8: case 9: due("lay " + k + " " + i + " " + v, x.lay(k, i, v), o.lay(k, i, v)); break;
            default:
                int from = upTo(3) == 0 ? about(12) : 2 * upTo(6);
                int many = upTo(20) == 0 ? about(11) : n;
                due("read " + k + " " + lane + " " + from + " " + many, x.read(k, lane, from, many), o.read(k, lane, from, many));
                due("torn", x.torn(), o.torn());
        }
    }

    private void telling() {
        if (upTo(5) == 0) {
            tell(upTo(3) != 0);
        } else {
            int n = about(402);
            due("end " + n, x.end(n), o.end(n));
            long v = random.nextLong();
            due("feed " + v, x.feed(v), o.feed(v));
            due("bytes", x.count(5), o.count(5));
        }
    }

    private void asking() {
        int s = s();
        int c = c();
        int t = t();
        int what = upTo(3) == 0 ? about(2) : 9 + about(10);
        int which = about(2);
        due("deal " + s + " " + what, x.deal(s, what), o.deal(s, what));
        due("spare " + s, x.spare(s), o.spare(s));
        due("fits " + c + " " + t, x.fits(c, t), o.fits(c, t));
        due("thing " + t + " " + what, x.thing(t, what), o.thing(t, what));
        due("child " + c + " " + what, x.child(c, what), o.child(c, what));
        due("count " + what, x.count(what), o.count(what));
        if (upTo(3) == 0) {
            due("odds " + s + " " + which, x.odds(s, which), o.odds(s, which));
        }
    }
}
