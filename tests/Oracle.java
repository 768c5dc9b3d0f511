import java.util.ArrayList;
import java.util.Arrays;
import java.util.List;

/** The document told once more, in the slowest and plainest way: all deals and rows are gone through. */
final class Oracle {
    static final int BAD = -1, STATE = -2, FULL = -3, NONE = -4;

    static final class Kid {
        int size, low, high;
        int[] wears = {-1, -1};
        int[] likes = new int[10];

        Kid copy() {
            Kid k = new Kid();
            k.size = size;
            k.low = low;
            k.high = high;
            k.wears = wears.clone();
            k.likes = likes.clone();
            return k;
        }
    }

    static final class Item {
        int slot, size, lasts, wear, heir = -1;
        String kind;
        boolean out;

        Item copy() {
            Item i = new Item();
            i.slot = slot;
            i.size = size;
            i.lasts = lasts;
            i.wear = wear;
            i.heir = heir;
            i.kind = kind;
            i.out = out;
            return i;
        }

        boolean done() {
            int times = kind.equals("turned") || kind.equals("both") ? 2 : 1;
            return wear >= times * lasts;
        }
    }

    static final class World {
        List<Kid> kids = new ArrayList<>();
        List<Item> items = new ArrayList<>();
        List<Integer> marks = new ArrayList<>();

        World copy() {
            World w = new World();
            for (Kid k : kids) {
                w.kids.add(k.copy());
            }
            for (Item i : items) {
                w.items.add(i.copy());
            }
            w.marks.addAll(marks);
            return w;
        }
    }

    static final List<String> KINDS = List.of("plain", "turned", "let", "both", "kept");

    World w = new World();
    int slack = 2;
    StringBuilder tape = new StringBuilder();
    int fault = 0;
    int torn = 0;
    World[] images = new World[2];
    Object[] sheets = new Object[4];

    // ---- fitting and dealing

    boolean span(int size, int body) {
        return size - body >= 0 && size - body <= slack;
    }

    int fit(World v, int c, Item i) {
        if (i.done() || i.heir >= 0 && i.heir != c) {
            return 0;
        }
        if (span(i.size, v.kids.get(c).size)) {
            return 1;
        }
        boolean let = (i.kind.equals("let") || i.kind.equals("both")) && !i.out;
        return let && span(i.size + 2, v.kids.get(c).size) ? 2 : 0;
    }

    /** best[c]: the place in the pool, or -1. */
    int[] deal(World v, List<Item> pool, int s) {
        int[] best = new int[v.kids.size()];
        Arrays.fill(best, -1);
        bestCount = -1;
        search(v, pool, s, 0, new int[v.kids.size()], new boolean[pool.size()], 0, best);
        return best;
    }

    int bestCount;

    void search(World v, List<Item> pool, int s, int c, int[] have, boolean[] taken, int count, int[] best) {
        int left = v.kids.size() - c;
        if (count + left <= bestCount) {
            return;
        }
        if (left == 0) {
            bestCount = count;
            System.arraycopy(have, 0, best, 0, have.length);
            return;
        }
        for (int t = 0; t < pool.size(); t++) {
            if (!taken[t] && pool.get(t).slot == s && fit(v, c, pool.get(t)) > 0) {
                taken[t] = true;
                have[c] = t;
                search(v, pool, s, c + 1, have, taken, count + 1, best);
                taken[t] = false;
            }
        }
        have[c] = -1;
        search(v, pool, s, c + 1, have, taken, count, best);
    }

    int warm(int[] dealt) {
        int n = 0;
        for (int t : dealt) {
            n += t >= 0 ? 1 : 0;
        }
        return n;
    }

    int put(World v, int s) {
        int[] dealt = deal(v, v.items, s);
        for (Kid k : v.kids) {
            k.wears[s] = -1;
        }
        for (int c = 0; c < dealt.length; c++) {
            if (dealt[c] >= 0) {
                on(v, c, dealt[c]);
            }
        }
        return dealt.length - warm(dealt);
    }

    void on(World v, int c, int t) {
        Item i = v.items.get(t);
        for (Kid k : v.kids) {
            if (k.wears[i.slot] == t) {
                k.wears[i.slot] = -1;
            }
        }
        if (fit(v, c, i) == 2) {
            i.out = true;
            i.size += 2;
        }
        v.kids.get(c).wears[i.slot] = t;
    }

    int winter(World v) {
        int n = 0;
        for (Kid k : v.kids) {
            for (int s = 0; s < 2; s++) {
                if (k.wears[s] >= 0) {
                    Item i = v.items.get(k.wears[s]);
                    i.wear++;
                    if (i.done()) {
                        n++;
                        k.wears[s] = -1;
                    }
                }
            }
        }
        return n;
    }

    int spring(World v, boolean quick) {
        int n = 0;
        for (int c = 0; c < v.kids.size(); c++) {
            Kid k = v.kids.get(c);
            k.size = Math.min(40, k.size + (quick ? k.high : k.low));
            for (int s = 0; s < 2; s++) {
                if (k.wears[s] >= 0 && fit(v, c, v.items.get(k.wears[s])) != 1) {
                    k.wears[s] = -1;
                    n++;
                }
            }
        }
        return n;
    }

    int[] years(World start, int s, int y, boolean quick) {
        World v = start.copy();
        int[] out = new int[y];
        for (int k = 0; k < y; k++) {
            out[k] = put(v, s);
            winter(v);
            spring(v, quick);
        }
        return out;
    }

    int total(World start, int s, int y, boolean quick) {
        return Arrays.stream(years(start, s, y, quick)).sum();
    }

    boolean slotOk(int s) {
        return s == 0 || s == 1;
    }

    boolean yOk(int y) {
        return y >= 1 && y <= 4;
    }

    boolean kidOk(int c) {
        return c >= 0 && c < w.kids.size();
    }

    boolean itemOk(int t) {
        return t >= 0 && t < w.items.size();
    }

    boolean pair(int what) {
        return what == 0 || what == 1;
    }

    int wearer(int t) {
        for (int c = 0; c < w.kids.size(); c++) {
            if (w.kids.get(c).wears[w.items.get(t).slot] == t) {
                return c;
            }
        }
        return NONE;
    }

    int none(int v) {
        return v < 0 ? NONE : v;
    }

    // ---- the text

    int feed(long v) {
        if (tape.length() + 8 > 400) {
            return FULL;
        }
        for (int i = 7; i >= 0; i--) {
            tape.append((char) (v >>> 8 * i & 255));
        }
        return tape.length();
    }

    int end(int n) {
        int had = tape.length();
        if (n < 0 || n > had) {
            return BAD;
        }
        tape.setLength(n);
        return had;
    }

    static final class Fault extends RuntimeException {
        final int code, place;

        Fault(int code, int place) {
            super(null, null, false, false);
            this.code = code;
            this.place = place;
        }
    }

    String signs;
    int at;
    int tokenAt;

    /** "" at the end. */
    String token() {
        while (at < signs.length() && signs.charAt(at) == ' ') {
            at++;
        }
        tokenAt = at;
        String rest = signs.substring(at);
        if (rest.isEmpty()) {
            return "";
        }
        String got = rest.replaceFirst("(?s)^([a-z]+|[0-9]+|;).*$", "$1");
        if (got.equals(rest) && !rest.matches("[a-z]+|[0-9]+|;")) {
            throw new Fault(1, tokenAt);
        }
        if (got.matches("[0-9]{3,}")) {
            throw new Fault(1, tokenAt);
        }
        at += got.length();
        return got;
    }

    int number(int low, int high) {
        String t = token();
        if (!t.matches("[0-9]+")) {
            throw new Fault(2, tokenAt);
        }
        int v = Integer.parseInt(t);
        if (v < low || v > high) {
            throw new Fault(3, tokenAt);
        }
        return v;
    }

    int text() {
        signs = tape.toString();
        tape.setLength(0);
        at = 0;
        World told = new World();
        int[] sl = {2, 0};
        List<int[]> likes = new ArrayList<>();
        int lines = 0;
        try {
            for (String name = token(); !name.isEmpty(); name = token()) {
                line(name, told, sl, likes);
                lines++;
            }
            for (Item i : told.items) {
                if (i.heir >= told.kids.size()) {
                    throw new Fault(6, signs.length());
                }
            }
            for (int[] l : likes) {
                if (l[0] >= told.kids.size() || l[1] >= told.items.size()) {
                    throw new Fault(6, signs.length());
                }
                told.kids.get(l[0]).likes[l[1]] = l[2];
            }
        } catch (Fault f) {
            fault = f.code;
            return -10 - f.place;
        }
        fault = 0;
        w = told;
        slack = sl[0];
        images = new World[2];
        return lines;
    }

    void line(String name, World told, int[] sl, List<int[]> likes) {
        switch (name) {
            case "slack":
                if (sl[1]++ > 0) {
                    throw new Fault(4, tokenAt);
                }
                sl[0] = number(0, 4);
                break;
            case "child":
                if (told.kids.size() == 8) {
                    throw new Fault(5, tokenAt);
                }
                Kid k = new Kid();
                k.size = number(1, 40);
                k.low = number(0, 4);
                k.high = number(k.low, 4);
                told.kids.add(k);
                break;
            case "coat":
            case "boots":
                if (told.items.size() == 10) {
                    throw new Fault(5, tokenAt);
                }
                Item i = new Item();
                i.slot = name.equals("coat") ? 0 : 1;
                i.kind = token();
                if (!KINDS.contains(i.kind)) {
                    throw new Fault(2, tokenAt);
                }
                i.heir = i.kind.equals("kept") ? number(0, 7) : -1;
                i.size = number(1, 40);
                i.lasts = number(1, 9);
                told.items.add(i);
                break;
            case "like":
                likes.add(new int[] {number(0, 7), number(0, 9), number(0, 9)});
                break;
            case "mark":
                if (told.marks.size() == 6) {
                    throw new Fault(5, tokenAt);
                }
                told.marks.add(number(1, 40));
                break;
            default:
                throw new Fault(2, tokenAt);
        }
        if (!token().equals(";")) {
            throw new Fault(2, tokenAt);
        }
    }

    int fault() {
        return fault;
    }

    int child(int c, int what) {
        if (!kidOk(c)) {
            return BAD;
        }
        Kid k = w.kids.get(c);
        return what == 0 ? k.size : what == 1 ? k.low : what == 2 ? k.high
            : what == 10 ? none(k.wears[0]) : what == 11 ? none(k.wears[1]) : BAD;
    }

    int thing(int t, int what) {
        if (!itemOk(t) || what < 0 || what > 7) {
            return BAD;
        }
        Item i = w.items.get(t);
        return new int[] {i.slot, KINDS.indexOf(i.kind), i.size, i.lasts, i.wear, i.out ? 1 : 0, none(i.heir), wearer(t)}[what];
    }

    int slack(int v) {
        if (v < 0 || v > 4) {
            return BAD;
        }
        int was = slack;
        slack = v;
        return was;
    }

    int like(int c, int t, int v) {
        if (!kidOk(c) || !itemOk(t) || v < 0 || v > 9) {
            return BAD;
        }
        int was = w.kids.get(c).likes[t];
        w.kids.get(c).likes[t] = v;
        return was;
    }

    // ---- what is worn

    int fits(int c, int t) {
        return kidOk(c) && itemOk(t) ? fit(w, c, w.items.get(t)) : BAD;
    }

    int wear(int c, int t) {
        if (!kidOk(c) || !itemOk(t)) {
            return BAD;
        }
        if (fits(c, t) == 0) {
            return STATE;
        }
        int was = w.kids.get(c).wears[w.items.get(t).slot];
        on(w, c, t);
        return none(was);
    }

    int doff(int c, int s) {
        if (!kidOk(c) || !slotOk(s)) {
            return BAD;
        }
        int was = w.kids.get(c).wears[s];
        w.kids.get(c).wears[s] = -1;
        return none(was);
    }

    int cold(int s) {
        if (!slotOk(s)) {
            return BAD;
        }
        int bits = 0;
        for (int c = 0; c < w.kids.size(); c++) {
            bits += w.kids.get(c).wears[s] < 0 ? 1 << c : 0;
        }
        return bits;
    }

    int deal(int s, int what) {
        if (!slotOk(s) || !pair(what) && (what < 10 || !kidOk(what - 10))) {
            return BAD;
        }
        int[] dealt = deal(w, w.items, s);
        return what == 0 ? warm(dealt) : what == 1 ? dealt.length - warm(dealt) : none(dealt[what - 10]);
    }

    int dress(int s) {
        return slotOk(s) ? put(w, s) : BAD;
    }

    List<Integer> left(World v, int s) {
        List<Integer> out = new ArrayList<>();
        int[] dealt = deal(v, v.items, s);
        for (int t = 0; t < v.items.size(); t++) {
            int it = t;
            if (v.items.get(t).slot == s && !v.items.get(t).done() && Arrays.stream(dealt).noneMatch(d -> d == it)) {
                out.add(t);
            }
        }
        return out;
    }

    int spare(int s) {
        if (!slotOk(s)) {
            return BAD;
        }
        int bits = 0;
        for (int t : left(w, s)) {
            bits += 1 << t;
        }
        return bits;
    }

    // ---- years

    int winter() {
        return winter(w);
    }

    int spring(boolean quick) {
        return spring(w, quick);
    }

    int ahead(int s, int y, boolean quick, int what) {
        if (!slotOk(s) || !yOk(y) || what != 0 && (what < 10 || what >= 10 + y)) {
            return BAD;
        }
        return what == 0 ? total(w, s, y, quick) : years(w, s, y, quick)[what - 10];
    }

    int strong(int s, int y, boolean quick) {
        if (!slotOk(s) || !yOk(y)) {
            return BAD;
        }
        for (int l = 1; l <= 9; l++) {
            World v = w.copy();
            for (Item i : v.items) {
                if (i.slot == s && i.lasts < l) {
                    i.lasts = l;
                }
            }
            if (total(v, s, y, quick) == 0) {
                return l;
            }
        }
        return NONE;
    }

    // ---- cutting, sewing

    int cut(int t, int size) {
        if (!itemOk(t) || size < 1 || size >= w.items.get(t).size) {
            return BAD;
        }
        if (wearer(t) >= 0) {
            return STATE;
        }
        int was = w.items.get(t).size;
        w.items.get(t).size = size;
        return was;
    }

    /** thing, size, new of the best; null if none pays. */
    int[] bestOf(List<Integer> candidates, int s, int y, boolean quick) {
        int base = total(w, s, y, quick);
        int[] found = null;
        for (int t : candidates) {
            for (int size = 1; size < w.items.get(t).size; size++) {
                World v = w.copy();
                v.items.get(t).size = size;
                int n = total(v, s, y, quick);
                if (n < base && (found == null || n < found[2] || n == found[2] && t == found[0])) {
                    found = new int[] {t, size, n};
                }
            }
        }
        return found;
    }

    int pays(int t, int y, boolean quick, int what) {
        if (!itemOk(t) || !yOk(y) || !pair(what)) {
            return BAD;
        }
        if (wearer(t) >= 0) {
            return STATE;
        }
        int[] found = bestOf(List.of(t), w.items.get(t).slot, y, quick);
        return found == null ? NONE : what == 0 ? found[1] : found[2];
    }

    int best(int s, int y, boolean quick, int what) {
        if (!slotOk(s) || !yOk(y) || !pair(what)) {
            return BAD;
        }
        List<Integer> candidates = new ArrayList<>();
        for (int t = 0; t < w.items.size(); t++) {
            if (w.items.get(t).slot == s && wearer(t) < 0) {
                candidates.add(t);
            }
        }
        int[] found = bestOf(candidates, s, y, quick);
        return found == null ? NONE : what == 0 ? found[0] * 100 + found[1] : found[2];
    }

    Item plain(int s, int size, int lasts) {
        Item i = new Item();
        i.slot = s;
        i.size = size;
        i.lasts = lasts;
        i.kind = "plain";
        return i;
    }

    int sew(int s, int size) {
        if (!slotOk(s) || size < 1 || size > 40) {
            return BAD;
        }
        if (w.items.size() == 10) {
            return FULL;
        }
        w.items.add(plain(s, size, 3));
        for (Kid k : w.kids) {
            k.likes[w.items.size() - 1] = 0;
        }
        return w.items.size() - 1;
    }

    int wish(int s, int y, boolean quick, int what) {
        if (!slotOk(s) || !yOk(y) || !pair(what)) {
            return BAD;
        }
        if (w.items.size() == 10) {
            return FULL;
        }
        int best = -1;
        int few = 1000;
        for (int size = 1; size <= 40; size++) {
            World v = w.copy();
            v.items.add(plain(s, size, 9));
            int n = total(v, s, y, quick);
            if (n < few) {
                few = n;
                best = size;
            }
        }
        return what == 0 ? best : few;
    }

    // ---- swaps

    int swap() {
        for (int s = 0; s < 2; s++) {
            for (int a = 0; a < w.kids.size(); a++) {
                for (int b = a + 1; b < w.kids.size(); b++) {
                    int ta = w.kids.get(a).wears[s];
                    int tb = w.kids.get(b).wears[s];
                    if (ta >= 0 && tb >= 0 && fits(a, tb) == 1 && fits(b, ta) == 1
                        && w.kids.get(a).likes[tb] > w.kids.get(a).likes[ta]
                        && w.kids.get(b).likes[ta] > w.kids.get(b).likes[tb]) {
                        return 100 * s + 10 * a + b;
                    }
                }
            }
        }
        return NONE;
    }

    int settle() {
        int n = 0;
        for (int p = swap(); p != NONE; p = swap()) {
            int s = p / 100;
            Kid a = w.kids.get(p % 100 / 10);
            Kid b = w.kids.get(p % 10);
            int t = a.wears[s];
            a.wears[s] = b.wears[s];
            b.wears[s] = t;
            n++;
        }
        return n;
    }

    // ---- odds, marks, another village

    long odds(int s, int what) {
        if (!slotOk(s) || !pair(what)) {
            return BAD;
        }
        long good = 0;
        long all = 1L << w.kids.size();
        for (int bits = 0; bits < all; bits++) {
            World v = w.copy();
            for (int c = 0; c < v.kids.size(); c++) {
                Kid k = v.kids.get(c);
                k.size = Math.min(40, k.size + ((bits >> c & 1) == 0 ? k.low : k.high));
            }
            good += warm(deal(v, v.items, s)) == v.kids.size() ? 1 : 0;
        }
        long a = good;
        long b = all;
        while (b != 0) {
            long r = a % b;
            a = b;
            b = r;
        }
        return what == 0 ? good / a : all / a;
    }

    int mark(int size) {
        if (size < 1 || size > 40) {
            return BAD;
        }
        if (w.marks.size() == 6) {
            return FULL;
        }
        w.marks.add(size);
        return w.marks.size();
    }

    int unmark(int n) {
        int had = w.marks.size();
        if (n < 0 || n > had) {
            return BAD;
        }
        w.marks = new ArrayList<>(w.marks.subList(0, n));
        return had;
    }

    List<int[]> allRows() {
        List<int[]> out = new ArrayList<>();
        rowsFrom(0, new int[w.marks.size()], out);
        return out;
    }

    void rowsFrom(int k, int[] row, List<int[]> out) {
        if (k == row.length) {
            out.add(row.clone());
            return;
        }
        for (int c = 0; c < w.kids.size(); c++) {
            int size = w.kids.get(c).size;
            for (int i = 0; i < k; i++) {
                size = Math.min(40, size + w.kids.get(c).low);
            }
            boolean free = true;
            for (int i = 0; i < k; i++) {
                free &= row[i] != c;
            }
            if (free && span(w.marks.get(k), size)) {
                row[k] = c;
                rowsFrom(k + 1, row, out);
            }
        }
    }

    int rows(int what) {
        if (what != 0 && (what < 10 || what - 10 >= w.marks.size())) {
            return BAD;
        }
        List<int[]> all = allRows();
        return what == 0 ? all.size() : all.isEmpty() ? NONE : all.get(0)[what - 10];
    }

    int whose(int what) {
        if (!pair(what)) {
            return BAD;
        }
        if (w.marks.isEmpty()) {
            return STATE;
        }
        int bits = 0;
        for (int[] row : allRows()) {
            bits |= 1 << row[what == 0 ? 0 : row.length - 1];
        }
        return bits;
    }

    int lend(int k, int s, int what) {
        if (!pair(k) || !slotOk(s) || !pair(what)) {
            return BAD;
        }
        if (images[k] == null) {
            return STATE;
        }
        List<Item> lent = new ArrayList<>();
        for (int t : left(images[k], s)) {
            if (images[k].items.get(t).heir < 0) {
                lent.add(images[k].items.get(t));
            }
        }
        List<Item> pool = new ArrayList<>(w.items);
        pool.addAll(lent);
        int most = warm(deal(w, pool, s));
        return what == 0 ? w.kids.size() - most : fewestLent(pool, s, 0, new boolean[pool.size()], most, 0);
    }

    int fewestLent(List<Item> pool, int s, int c, boolean[] taken, int toWarm, int lent) {
        if (toWarm > w.kids.size() - c) {
            return 1000;
        }
        if (c == w.kids.size()) {
            return lent;
        }
        int best = fewestLent(pool, s, c + 1, taken, toWarm, lent);
        for (int t = 0; t < pool.size() && toWarm > 0; t++) {
            if (!taken[t] && pool.get(t).slot == s && fit(w, c, pool.get(t)) > 0) {
                taken[t] = true;
                int more = t >= w.items.size() ? 1 : 0;
                best = Math.min(best, fewestLent(pool, s, c + 1, taken, toWarm - 1, lent + more));
                taken[t] = false;
            }
        }
        return best;
    }

    // ---- images, sheets

    int keep(int k) {
        if (!pair(k)) {
            return BAD;
        }
        int was = images[k] == null ? 0 : 1;
        images[k] = w.copy();
        return was;
    }

    int back(int k) {
        if (!pair(k)) {
            return BAD;
        }
        if (images[k] == null) {
            return STATE;
        }
        w = images[k].copy();
        return w.items.size();
    }

    int sheet(int k, int lane, int n) {
        if (k < 0 || k > 3 || lane < 0 || lane > 2 || n > 40) {
            return BAD;
        }
        if (n < 0) {
            return -14;
        }
        sheets[k] = lane == 0 ? new byte[n] : lane == 1 ? new short[n] : new int[n];
        return 1;
    }

    int lay(int k, int i, int v) {
        if (k < 0 || k > 3) {
            return BAD;
        }
        if (sheets[k] == null) {
            return -11;
        }
        // Here the machine itself finds the fault.
        try {
            if (sheets[k] instanceof byte[] b) {
                b[i] = (byte) v;
            } else if (sheets[k] instanceof short[] h) {
                h[i] = (short) v;
            } else {
                ((int[]) sheets[k])[i] = v;
            }
        } catch (ArrayIndexOutOfBoundsException e) {
            return -12;
        }
        return 1;
    }

    int cell(Object sheet, int lane, int i) {
        if (lane == 0) {
            return ((byte[]) sheet)[i];
        }
        return lane == 1 ? ((short[]) sheet)[i] : ((int[]) sheet)[i];
    }

    int read(int k, int lane, int f, int n) {
        if (k < 0 || k > 3 || lane < 0 || lane > 2 || n < 0 || n > 10) {
            return BAD;
        }
        World before = w.copy();
        int met = 0;
        int came = 0;
        try {
            for (int i = 0; i < n; i++) {
                int s = cell(sheets[k], lane, f + 2 * i);
                int size = cell(sheets[k], lane, f + 2 * i + 1);
                if (sew(s, size) < 0) {
                    w = before;
                    return -20 - i;
                }
                came++;
            }
        } catch (NullPointerException e) {
            met = 1;
        } catch (ArrayIndexOutOfBoundsException e) {
            met = 2;
        } catch (ClassCastException e) {
            met = 3;
        }
        torn = met;
        return came;
    }

    int torn() {
        return torn;
    }

    int count(int what) {
        switch (what) {
            case 0: return w.kids.size();
            case 1: return w.items.size();
            case 2: return w.marks.size();
            case 3: return (int) w.items.stream().filter(Item::done).count();
            case 4: return (images[0] == null ? 0 : 1) + (images[1] == null ? 0 : 1);
            case 5: return tape.length();
            case 6: return sheets[0] == null ? NONE : java.lang.reflect.Array.getLength(sheets[0]);
            case 7: return slack;
            default: return BAD;
        }
    }
}
