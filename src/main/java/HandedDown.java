import java.util.Arrays;

/** Children who grow, and the coats and boots that go from one to the next. */
public final class HandedDown {
    public static final int BAD = -1, STATE = -2, FULL = -3, NONE = -4;

    private static final int MOST_CHILDREN = 8;
    private static final int MOST_THINGS = 10;
    private static final int MOST_MARKS = 6;
    private static final int MOST_BYTES = 400;
    private static final int MOST_CELLS = 40;
    private static final int MOST_READ = 10;
    private static final int SLOTS = 2;
    private static final int IMAGES = 2;
    private static final int SHEETS = 4;
    private static final int LANES = 3;

    private static final int LARGEST = 40;
    private static final int MOST_GROWTH = 4;
    private static final int MOST_SLACK = 4;
    private static final int FIRST_SLACK = 2;
    private static final int MOST_LASTS = 9;
    private static final int SEWN_LASTS = 3;
    private static final int MOST_LIKING = 9;
    private static final int MOST_YEARS = 4;
    private static final int LET_BY = 2;
    /** From here on what is asked is told of each one: 10 of number 0, 11 of number 1. */
    private static final int EACH = 10;

    private static final int PLAIN = 0;
    private static final int TURNED = 1;
    private static final int LET = 2;
    private static final int BOTH = 3;
    private static final int KEPT = 4;

    private static final int NO_TOKEN = 1;
    private static final int MISPLACED = 2;
    private static final int OUT_OF_BOUNDS = 3;
    private static final int SLACK_AGAIN = 4;
    private static final int TOO_MANY = 5;
    private static final int MISSING = 6;

    private static final int NO_FIT = 0;
    private static final int FIT_AS_IS = 1;
    private static final int FIT_LET_OUT = 2;

    private static final int BY_FAULT = -10;
    private static final int BY_SEWING = -20;
    private static final int NULL_FAULT = 1;
    private static final int INDEX_FAULT = 2;
    private static final int CAST_FAULT = 3;
    private static final int SIZE_FAULT = 4;

    private final Tape tape = new Tape();
    private final Village now = new Village();
    /** What is tried out, so that nothing has to be taken back in the village itself. */
    private final Village trial = new Village();
    private final Reader reader = new Reader(tape, trial);
    private final Village[] images = new Village[IMAGES];
    private final boolean[] imaged = new boolean[IMAGES];
    private final Sheet[] sheets = new Sheet[SHEETS];
    private final Deal plan = new Deal();
    private final MarkRows markRows = new MarkRows();
    private final int[] newByYear = new int[MOST_YEARS];
    private int allowed = FIRST_SLACK;
    private int textFault = 0;
    private int sheetFault = 0;
    private int bestThing;
    private int bestSize;
    private int bestNew;

    public HandedDown() {
        for (int k = 0; k < IMAGES; k++) {
            images[k] = new Village();
        }
        for (int k = 0; k < SHEETS; k++) {
            sheets[k] = new Sheet();
        }
    }

    // ---- the text

    public int feed(long v) {
        return tape.takeEight(v) ? tape.length : FULL;
    }

    public int end(int n) {
        if (!within(n, 0, tape.length)) {
            return BAD;
        }
        int before = tape.length;
        tape.length = n;
        return before;
    }

    public int text() {
        int lines = reader.readAll();
        tape.length = 0;
        textFault = reader.problem;
        if (textFault != 0) {
            return BY_FAULT - reader.place;
        }
        now.becomeAll(trial);
        allowed = reader.toldSlack;
        for (int k = 0; k < IMAGES; k++) {
            imaged[k] = false;
        }
        return lines;
    }

    public int fault() {
        return textFault;
    }

    public int child(int c, int what) {
        if (!now.hasChild(c)) {
            return BAD;
        }
        switch (what) {
            case 0: return now.children[c].size;
            case 1: return now.children[c].low;
            case 2: return now.children[c].high;
            case EACH: return now.wornBy(c, 0);
            case EACH + 1: return now.wornBy(c, 1);
            default: return BAD;
        }
    }

    public int thing(int t, int what) {
        if (!now.hasThing(t)) {
            return BAD;
        }
        Thing asked = now.things[t];
        switch (what) {
            case 0: return asked.slot;
            case 1: return asked.kind;
            case 2: return asked.size;
            case 3: return asked.lasts;
            case 4: return asked.worn;
            case 5: return asked.letOut ? 1 : 0;
            case 6: return asked.heir;
            case 7: return asked.wearer;
            default: return BAD;
        }
    }

    public int slack(int v) {
        if (!within(v, 0, MOST_SLACK)) {
            return BAD;
        }
        int before = allowed;
        allowed = v;
        return before;
    }

    public int like(int c, int t, int v) {
        if (!now.hasChild(c) || !now.hasThing(t) || !within(v, 0, MOST_LIKING)) {
            return BAD;
        }
        int before = now.likingOf(c, t);
        now.setLiking(c, t, v);
        return before;
    }

    // ---- what is worn

    public int fits(int c, int t) {
        if (!now.hasChild(c) || !now.hasThing(t)) {
            return BAD;
        }
        return now.fitOf(c, t, allowed);
    }

    public int wear(int c, int t) {
        if (!now.hasChild(c) || !now.hasThing(t)) {
            return BAD;
        }
        if (now.fitOf(c, t, allowed) == NO_FIT) {
            return STATE;
        }
        int before = now.wornBy(c, now.things[t].slot);
        if (now.hasThing(before)) {
            now.things[before].wearer = NONE;
        }
        now.putOn(c, t, allowed);
        return before;
    }

    public int doff(int c, int s) {
        if (!now.hasChild(c) || !isSlot(s)) {
            return BAD;
        }
        int before = now.wornBy(c, s);
        if (now.hasThing(before)) {
            now.things[before].wearer = NONE;
        }
        return before;
    }

    public int cold(int s) {
        return isSlot(s) ? now.coldOnes(s) : BAD;
    }

    public int deal(int s, int what) {
        int c = what - EACH;
        if (!isSlot(s) || !(isZeroOrOne(what) || now.hasChild(c))) {
            return BAD;
        }
        plan.make(now, s, allowed);
        if (what == 0) {
            return plan.warm;
        }
        return what == 1 ? now.childCount - plan.warm : plan.thingOf(c);
    }

    public int dress(int s) {
        return isSlot(s) ? dressAll(now, s) : BAD;
    }

    public int spare(int s) {
        if (!isSlot(s)) {
            return BAD;
        }
        plan.make(now, s, allowed);
        return plan.leftOf(now, s, true);
    }

    // ---- years

    public int winter() {
        return now.passWinter();
    }

    public int spring(boolean quick) {
        return now.passSpring(quick, allowed);
    }

    public int ahead(int s, int y, boolean quick, int what) {
        if (!isSlot(s) || !isYears(y) || !(what == 0 || within(what - EACH, 0, y - 1))) {
            return BAD;
        }
        trial.becomeBodies(now);
        int sum = newAhead(s, y, quick);
        return what == 0 ? sum : newByYear[what - EACH];
    }

    public int strong(int s, int y, boolean quick) {
        if (!isSlot(s) || !isYears(y)) {
            return BAD;
        }
        for (int lasts = 1; lasts <= MOST_LASTS; lasts++) {
            trial.becomeBodies(now);
            trial.strengthen(s, lasts);
            if (newAhead(s, y, quick) == 0) {
                return lasts;
            }
        }
        return NONE;
    }

    // ---- cutting, sewing

    public int cut(int t, int size) {
        if (!now.hasThing(t) || !within(size, 1, now.things[t].size - 1)) {
            return BAD;
        }
        if (now.things[t].wearer != NONE) {
            return STATE;
        }
        int before = now.things[t].size;
        now.things[t].size = size;
        return before;
    }

    public int pays(int t, int y, boolean quick, int what) {
        if (!now.hasThing(t) || !isYears(y) || !isZeroOrOne(what)) {
            return BAD;
        }
        if (now.things[t].wearer != NONE) {
            return STATE;
        }
        startCuts(now.things[t].slot, y, quick);
        tryCuts(t, y, quick);
        if (bestThing == NONE) {
            return NONE;
        }
        return what == 0 ? bestSize : bestNew;
    }

    public int best(int s, int y, boolean quick, int what) {
        if (!isSlot(s) || !isYears(y) || !isZeroOrOne(what)) {
            return BAD;
        }
        startCuts(s, y, quick);
        for (int t = 0; t < now.thingCount; t++) {
            if (now.things[t].slot == s && now.things[t].wearer == NONE) {
                tryCuts(t, y, quick);
            }
        }
        if (bestThing == NONE) {
            return NONE;
        }
        return what == 0 ? 100 * bestThing + bestSize : bestNew;
    }

    public int sew(int s, int size) {
        int refusal = sewRefusal(now.thingCount, s, size);
        return refusal != 0 ? refusal : now.addPlain(s, size, SEWN_LASTS);
    }

    public int wish(int s, int y, boolean quick, int what) {
        if (!isSlot(s) || !isYears(y) || !isZeroOrOne(what)) {
            return BAD;
        }
        if (now.thingCount >= MOST_THINGS) {
            return FULL;
        }
        int wished = 0;
        int fewest = 0;
        for (int size = 1; size <= LARGEST; size++) {
            trial.becomeBodies(now);
            trial.addPlain(s, size, MOST_LASTS);
            int found = newAhead(s, y, quick);
            if (wished == 0 || found < fewest) {
                wished = size;
                fewest = found;
            }
        }
        return what == 0 ? wished : fewest;
    }

    // ---- swaps

    public int swap() {
        return now.firstSwap(allowed);
    }

    public int settle() {
        // Each swap adds 2 to what is liked at the least, and that is never above this bound.
        int most = SLOTS * MOST_CHILDREN * MOST_LIKING;
        int made = 0;
        while (made < most) {
            int found = now.firstSwap(allowed);
            if (found == NONE) {
                break;
            }
            now.makeSwap(found / 100, found / 10 % 10, found % 10);
            made++;
        }
        return made;
    }

    // ---- odds, marks, another village

    public long odds(int s, int what) {
        if (!isSlot(s) || !isZeroOrOne(what)) {
            return BAD;
        }
        int ways = 1 << now.childCount;
        int good = 0;
        for (int quickOnes = 0; quickOnes < ways; quickOnes++) {
            trial.becomeBodies(now);
            trial.growEach(quickOnes);
            plan.begin(trial, s, allowed);
            plan.warmAll();
            if (plan.warm == now.childCount) {
                good++;
            }
        }
        // The denominator is a power of 2, so that halving is all that lowers the fraction.
        while (ways > 1 && good % 2 == 0) {
            good /= 2;
            ways /= 2;
        }
        return what == 0 ? good : ways;
    }

    public int mark(int size) {
        if (!isSize(size)) {
            return BAD;
        }
        if (now.markCount >= MOST_MARKS) {
            return FULL;
        }
        now.addMark(size);
        return now.markCount;
    }

    public int unmark(int n) {
        if (!within(n, 0, now.markCount)) {
            return BAD;
        }
        int before = now.markCount;
        now.markCount = n;
        return before;
    }

    public int rows(int what) {
        int k = what - EACH;
        if (what != 0 && !within(k, 0, now.markCount - 1)) {
            return BAD;
        }
        markRows.trace(now, allowed);
        return what == 0 ? markRows.howMany() : markRows.inFirst(k);
    }

    public int whose(int what) {
        if (!isZeroOrOne(what)) {
            return BAD;
        }
        if (now.markCount == 0) {
            return STATE;
        }
        markRows.trace(now, allowed);
        return what == 0 ? markRows.firstOnes() : markRows.lastOnes();
    }

    public int lend(int k, int s, int what) {
        if (!isImage(k) || !isSlot(s) || !isZeroOrOne(what)) {
            return BAD;
        }
        if (!imaged[k]) {
            return STATE;
        }
        plan.make(images[k], s, allowed);
        int lent = plan.leftOf(images[k], s, false);
        plan.begin(now, s, allowed);
        plan.warmAll();
        int byOwn = plan.warm;
        plan.addLent(now, images[k], lent, allowed);
        plan.warmAll();
        // Whoever is warm by an own thing can stay so: just those who come to it need lent ones.
        return what == 0 ? now.childCount - plan.warm : plan.warm - byOwn;
    }

    // ---- images, sheets

    public int keep(int k) {
        if (!isImage(k)) {
            return BAD;
        }
        int before = imaged[k] ? 1 : 0;
        images[k].becomeAll(now);
        imaged[k] = true;
        return before;
    }

    public int back(int k) {
        if (!isImage(k)) {
            return BAD;
        }
        if (!imaged[k]) {
            return STATE;
        }
        now.becomeAll(images[k]);
        return now.thingCount;
    }

    public int sheet(int k, int lane, int n) {
        if (!isSheet(k) || !isLane(lane) || n > MOST_CELLS) {
            return BAD;
        }
        if (n < 0) {
            return BY_FAULT - SIZE_FAULT;
        }
        sheets[k].renew(lane, n);
        return 1;
    }

    public int lay(int k, int i, int v) {
        if (!isSheet(k)) {
            return BAD;
        }
        if (sheets[k].isNothing()) {
            return BY_FAULT - NULL_FAULT;
        }
        if (!sheets[k].hasCell(i)) {
            return BY_FAULT - INDEX_FAULT;
        }
        sheets[k].setCell(i, v);
        return 1;
    }

    public int read(int k, int lane, int f, int n) {
        if (!isSheet(k) || !isLane(lane) || !within(n, 0, MOST_READ)) {
            return BAD;
        }
        Sheet from = sheets[k];
        int met = n == 0 ? 0 : from.faultAs(lane);
        int whole = 0;
        for (int i = 0; i < n && met == 0; i++) {
            int at = f + 2 * i;
            if (!from.hasCell(at) || !from.hasCell(at + 1)) {
                met = INDEX_FAULT;
            } else if (sewRefusal(now.thingCount + i, from.cellAt(at), from.cellAt(at + 1)) != 0) {
                return BY_SEWING - i;
            } else {
                whole++;
            }
        }
        for (int i = 0; i < whole; i++) {
            now.addPlain(from.cellAt(f + 2 * i), from.cellAt(f + 2 * i + 1), SEWN_LASTS);
        }
        sheetFault = met;
        return whole;
    }

    public int torn() {
        return sheetFault;
    }

    public int count(int what) {
        switch (what) {
            case 0: return now.childCount;
            case 1: return now.thingCount;
            case 2: return now.markCount;
            case 3: return now.wornOutCount();
            case 4: return (imaged[0] ? 1 : 0) + (imaged[1] ? 1 : 0);
            case 5: return tape.length;
            case 6: return sheets[0].isNothing() ? NONE : sheets[0].length;
            case 7: return allowed;
            default: return BAD;
        }
    }

    // ---- behind the face

    private static boolean within(int v, int least, int most) {
        return v >= least && v <= most;
    }

    private static boolean isSlot(int s) {
        return within(s, 0, SLOTS - 1);
    }

    private static boolean isSize(int size) {
        return within(size, 1, LARGEST);
    }

    private static boolean isYears(int y) {
        return within(y, 1, MOST_YEARS);
    }

    private static boolean isZeroOrOne(int what) {
        return what == 0 || what == 1;
    }

    private static boolean isImage(int k) {
        return within(k, 0, IMAGES - 1);
    }

    private static boolean isSheet(int k) {
        return within(k, 0, SHEETS - 1);
    }

    private static boolean isLane(int lane) {
        return within(lane, 0, LANES - 1);
    }

    private static int sewRefusal(int thingsBefore, int s, int size) {
        if (!isSlot(s) || !isSize(size)) {
            return BAD;
        }
        return thingsBefore >= MOST_THINGS ? FULL : 0;
    }

    private int dressAll(Village village, int s) {
        plan.begin(village, s, allowed);
        plan.warmAll();
        plan.putInOrder();
        village.undress(s);
        for (int c = 0; c < village.childCount; c++) {
            int t = plan.thingOf(c);
            if (village.hasThing(t)) {
                village.putOn(c, t, allowed);
            }
        }
        return village.childCount - plan.warm;
    }

    // The trial is used up by this: it is y years older then.
    private int newAhead(int s, int y, boolean quick) {
        int sum = 0;
        for (int k = 0; k < y && k < MOST_YEARS; k++) {
            newByYear[k] = dressAll(trial, s);
            sum += newByYear[k];
            trial.passWinter();
            trial.passSpring(quick, allowed);
        }
        return sum;
    }

    private void startCuts(int s, int y, boolean quick) {
        trial.becomeBodies(now);
        bestNew = newAhead(s, y, quick);
        bestThing = NONE;
        bestSize = 0;
    }

    /** From the greatest size down, and only by fewer, so that of equals the first stays. */
    private void tryCuts(int t, int y, boolean quick) {
        int slot = now.things[t].slot;
        int smallest = now.smallestSize();
        for (int size = now.things[t].size - 1; size >= 1 && bestNew > 0; size--) {
            trial.becomeBodies(now);
            trial.things[t].size = size;
            int found = newAhead(slot, y, quick);
            if (found < bestNew) {
                bestNew = found;
                bestThing = t;
                bestSize = size;
            }
            // Nobody shrinks: what is too small for all now is so ever after, as is all that is less.
            if (size + LET_BY < smallest) {
                break;
            }
        }
    }

    /** The bytes that are fed, up to the text that they make. */
    private static final class Tape {
        private final byte[] bytes = new byte[MOST_BYTES];
        private int length = 0;

        boolean takeEight(long v) {
            if (length + 8 > MOST_BYTES) {
                return false;
            }
            for (int i = 0; i < 8; i++) {
                bytes[length + i] = (byte) (v >> (56 - 8 * i));
            }
            length += 8;
            return true;
        }

        /** Behind the end stands a byte that is in no token. */
        int byteAt(int place) {
            return place >= 0 && place < length && place < MOST_BYTES ? bytes[place] : -1;
        }
    }

    /** Reads the tape, token by token, into a village that is given up if there is a fault. */
    private static final class Reader {
        private static final int AT_END = 0;
        private static final int NAME = 1;
        private static final int NUMBER = 2;
        private static final int STOP = 3;
        private static final int BROKEN = 4;

        private final Tape tape;
        private final Village told;
        private int behind;
        private int token;
        private int start;
        private int value;
        private int toldSlack;
        private boolean slackIsTold;
        private int childrenNeeded;
        private int thingsNeeded;
        private int problem;
        private int place;

        Reader(Tape tape, Village told) {
            this.tape = tape;
            this.told = told;
        }

        /** How many lines; what is wrong, if anything, is in problem and place. */
        int readAll() {
            told.clear();
            behind = 0;
            toldSlack = FIRST_SLACK;
            slackIsTold = false;
            childrenNeeded = 0;
            thingsNeeded = 0;
            problem = 0;
            place = 0;
            int lines = 0;
            // A line takes a byte at the least.
            while (lines <= MOST_BYTES) {
                nextToken();
                if (token == AT_END || !takeLine()) {
                    break;
                }
                lines++;
            }
            if (problem == 0 && (childrenNeeded > told.childCount || thingsNeeded > told.thingCount)) {
                refuse(MISSING);
            }
            return lines;
        }

        private boolean refuse(int why) {
            problem = why;
            place = start;
            return false;
        }

        private boolean takeLine() {
            if (token != NAME) {
                return refuse(token == BROKEN ? NO_TOKEN : MISPLACED);
            }
            if (isNamed("slack")) {
                return takeSlack();
            }
            if (isNamed("child")) {
                return takeChild();
            }
            if (isNamed("coat")) {
                return takeThing(0);
            }
            if (isNamed("boots")) {
                return takeThing(1);
            }
            if (isNamed("like")) {
                return takeLiking();
            }
            return isNamed("mark") ? takeMark() : refuse(MISPLACED);
        }

        private boolean takeSlack() {
            if (slackIsTold) {
                return refuse(SLACK_AGAIN);
            }
            slackIsTold = true;
            if (!takeNumber(0, MOST_SLACK)) {
                return false;
            }
            toldSlack = value;
            return takeStop();
        }

        private boolean takeChild() {
            if (told.childCount >= MOST_CHILDREN) {
                return refuse(TOO_MANY);
            }
            if (!takeNumber(1, LARGEST)) {
                return false;
            }
            int size = value;
            if (!takeNumber(0, MOST_GROWTH)) {
                return false;
            }
            int low = value;
            if (!takeNumber(low, MOST_GROWTH)) {
                return false;
            }
            told.addChild(size, low, value);
            return takeStop();
        }

        private boolean takeThing(int slot) {
            if (told.thingCount >= MOST_THINGS) {
                return refuse(TOO_MANY);
            }
            nextToken();
            if (token == BROKEN) {
                return refuse(NO_TOKEN);
            }
            int kind = token == NAME ? kindNamed() : NONE;
            if (kind == NONE) {
                return refuse(MISPLACED);
            }
            int heir = NONE;
            if (kind == KEPT) {
                if (!takeNumber(0, MOST_CHILDREN - 1)) {
                    return false;
                }
                heir = value;
                childrenNeeded = Math.max(childrenNeeded, heir + 1);
            }
            if (!takeNumber(1, LARGEST)) {
                return false;
            }
            int size = value;
            if (!takeNumber(1, MOST_LASTS)) {
                return false;
            }
            int added = told.addPlain(slot, size, value);
            if (told.hasThing(added)) {
                told.things[added].kind = kind;
                told.things[added].heir = heir;
            }
            return takeStop();
        }

        private int kindNamed() {
            if (isNamed("plain")) {
                return PLAIN;
            }
            if (isNamed("turned")) {
                return TURNED;
            }
            if (isNamed("let")) {
                return LET;
            }
            if (isNamed("both")) {
                return BOTH;
            }
            return isNamed("kept") ? KEPT : NONE;
        }

        private boolean takeLiking() {
            if (!takeNumber(0, MOST_CHILDREN - 1)) {
                return false;
            }
            int c = value;
            if (!takeNumber(0, MOST_THINGS - 1)) {
                return false;
            }
            int t = value;
            if (!takeNumber(0, MOST_LIKING)) {
                return false;
            }
            childrenNeeded = Math.max(childrenNeeded, c + 1);
            thingsNeeded = Math.max(thingsNeeded, t + 1);
            told.setLiking(c, t, value);
            return takeStop();
        }

        private boolean takeMark() {
            if (told.markCount >= MOST_MARKS) {
                return refuse(TOO_MANY);
            }
            if (!takeNumber(1, LARGEST)) {
                return false;
            }
            told.addMark(value);
            return takeStop();
        }

        private boolean takeNumber(int least, int most) {
            nextToken();
            if (token != NUMBER) {
                return refuse(token == BROKEN ? NO_TOKEN : MISPLACED);
            }
            return within(value, least, most) || refuse(OUT_OF_BOUNDS);
        }

        private boolean takeStop() {
            nextToken();
            return token == STOP || refuse(token == BROKEN ? NO_TOKEN : MISPLACED);
        }

        private void nextToken() {
            while (behind < tape.length && tape.byteAt(behind) == ' ') {
                behind++;
            }
            start = behind;
            if (start >= tape.length) {
                token = AT_END;
            } else if (tape.byteAt(start) == ';') {
                token = STOP;
                behind++;
            } else if (isLetter(tape.byteAt(start))) {
                token = NAME;
                while (behind < tape.length && isLetter(tape.byteAt(behind))) {
                    behind++;
                }
            } else {
                value = 0;
                while (behind < tape.length && isFigure(tape.byteAt(behind))) {
                    // The value of a number that is too long is never asked.
                    value = value % 100 * 10 + tape.byteAt(behind) - '0';
                    behind++;
                }
                int figures = behind - start;
                token = figures == 1 || figures == 2 ? NUMBER : BROKEN;
            }
        }

        private static boolean isLetter(int sign) {
            return sign >= 'a' && sign <= 'z';
        }

        private static boolean isFigure(int sign) {
            return sign >= '0' && sign <= '9';
        }

        private boolean isNamed(String name) {
            if (behind - start != name.length()) {
                return false;
            }
            for (int i = 0; i < name.length(); i++) {
                if (tape.byteAt(start + i) != name.charAt(i)) {
                    return false;
                }
            }
            return true;
        }
    }

    private static final class Child {
        private int size;
        private int low;
        private int high;

        void become(Child other) {
            size = other.size;
            low = other.low;
            high = other.high;
        }

        void grow(boolean quick) {
            size = Math.min(LARGEST, size + (quick ? high : low));
        }
    }

    private static final class Thing {
        private int slot;
        private int kind;
        private int size;
        private int lasts;
        private int worn;
        private boolean letOut;
        private int heir;
        private int wearer;

        void become(Thing other) {
            slot = other.slot;
            kind = other.kind;
            size = other.size;
            lasts = other.lasts;
            worn = other.worn;
            letOut = other.letOut;
            heir = other.heir;
            wearer = other.wearer;
        }

        void becomePlain(int newSlot, int newSize, int newLasts) {
            slot = newSlot;
            kind = PLAIN;
            size = newSize;
            lasts = newLasts;
            worn = 0;
            letOut = false;
            heir = NONE;
            wearer = NONE;
        }

        boolean isWornOut() {
            boolean twice = kind == TURNED || kind == BOTH;
            return worn >= (twice ? 2 * lasts : lasts);
        }

        int fitFor(int c, int bodySize, int slack) {
            if (isWornOut() || (kind == KEPT && heir != c)) {
                return NO_FIT;
            }
            if (within(size, bodySize, bodySize + slack)) {
                return FIT_AS_IS;
            }
            boolean canBeLetOut = (kind == LET || kind == BOTH) && !letOut;
            return canBeLetOut && within(size + LET_BY, bodySize, bodySize + slack) ? FIT_LET_OUT : NO_FIT;
        }
    }

    /** All that an image holds: children, things, likings, who wears what, marks. */
    private static final class Village {
        private final Child[] children = new Child[MOST_CHILDREN];
        private final Thing[] things = new Thing[MOST_THINGS];
        private final int[] likings = new int[MOST_CHILDREN * MOST_THINGS];
        private final int[] marks = new int[MOST_MARKS];
        private int childCount = 0;
        private int thingCount = 0;
        private int markCount = 0;

        Village() {
            for (int c = 0; c < MOST_CHILDREN; c++) {
                children[c] = new Child();
            }
            for (int t = 0; t < MOST_THINGS; t++) {
                things[t] = new Thing();
            }
        }

        void clear() {
            childCount = 0;
            thingCount = 0;
            markCount = 0;
            Arrays.fill(likings, 0);
        }

        void becomeAll(Village other) {
            becomeBodies(other);
            System.arraycopy(other.likings, 0, likings, 0, MOST_CHILDREN * MOST_THINGS);
            System.arraycopy(other.marks, 0, marks, 0, MOST_MARKS);
            markCount = other.markCount;
        }

        /** Only what years and deals look at: it is copied often. */
        void becomeBodies(Village other) {
            childCount = other.childCount;
            thingCount = other.thingCount;
            for (int c = 0; c < childCount; c++) {
                children[c].become(other.children[c]);
            }
            for (int t = 0; t < thingCount; t++) {
                things[t].become(other.things[t]);
            }
        }

        boolean hasChild(int c) {
            return c >= 0 && c < childCount;
        }

        boolean hasThing(int t) {
            return t >= 0 && t < thingCount;
        }

        void addChild(int size, int low, int high) {
            if (childCount < MOST_CHILDREN) {
                children[childCount].size = size;
                children[childCount].low = low;
                children[childCount].high = high;
                childCount++;
            }
        }

        int addPlain(int slot, int size, int lasts) {
            if (thingCount >= MOST_THINGS) {
                return FULL;
            }
            things[thingCount].becomePlain(slot, size, lasts);
            thingCount++;
            return thingCount - 1;
        }

        void addMark(int size) {
            if (markCount < MOST_MARKS) {
                marks[markCount] = size;
                markCount++;
            }
        }

        int smallestSize() {
            int smallest = LARGEST;
            for (int c = 0; c < childCount; c++) {
                smallest = Math.min(smallest, children[c].size);
            }
            return smallest;
        }

        int likingOf(int c, int t) {
            return likings[c * MOST_THINGS + t];
        }

        void setLiking(int c, int t, int v) {
            likings[c * MOST_THINGS + t] = v;
        }

        int fitOf(int c, int t, int slack) {
            return things[t].fitFor(c, children[c].size, slack);
        }

        int wornBy(int c, int slot) {
            for (int t = 0; t < thingCount; t++) {
                if (things[t].slot == slot && things[t].wearer == c) {
                    return t;
                }
            }
            return NONE;
        }

        void putOn(int c, int t, int slack) {
            Thing taken = things[t];
            if (taken.fitFor(c, children[c].size, slack) == FIT_LET_OUT) {
                taken.letOut = true;
                taken.size += LET_BY;
            }
            taken.wearer = c;
        }

        void undress(int slot) {
            for (int t = 0; t < thingCount; t++) {
                if (things[t].slot == slot) {
                    things[t].wearer = NONE;
                }
            }
        }

        int coldOnes(int slot) {
            int bits = 0;
            for (int c = 0; c < childCount; c++) {
                if (wornBy(c, slot) == NONE) {
                    bits |= 1 << c;
                }
            }
            return bits;
        }

        int wornOutCount() {
            int found = 0;
            for (int t = 0; t < thingCount; t++) {
                if (things[t].isWornOut()) {
                    found++;
                }
            }
            return found;
        }

        int passWinter() {
            int wornOut = 0;
            for (int t = 0; t < thingCount; t++) {
                if (things[t].wearer != NONE) {
                    things[t].worn++;
                    if (things[t].isWornOut()) {
                        things[t].wearer = NONE;
                        wornOut++;
                    }
                }
            }
            return wornOut;
        }

        int passSpring(boolean quick, int slack) {
            for (int c = 0; c < childCount; c++) {
                children[c].grow(quick);
            }
            int takenOff = 0;
            for (int t = 0; t < thingCount; t++) {
                int c = things[t].wearer;
                if (hasChild(c) && fitOf(c, t, slack) != FIT_AS_IS) {
                    things[t].wearer = NONE;
                    takenOff++;
                }
            }
            return takenOff;
        }

        void growEach(int quickOnes) {
            for (int c = 0; c < childCount; c++) {
                children[c].grow((quickOnes >> c & 1) == 1);
            }
        }

        void strengthen(int slot, int lasts) {
            for (int t = 0; t < thingCount; t++) {
                if (things[t].slot == slot) {
                    things[t].lasts = Math.max(things[t].lasts, lasts);
                }
            }
        }

        int firstSwap(int slack) {
            for (int slot = 0; slot < SLOTS; slot++) {
                for (int a = 0; a < childCount; a++) {
                    int mine = wornBy(a, slot);
                    for (int b = a + 1; b < childCount && mine != NONE; b++) {
                        int yours = wornBy(b, slot);
                        if (yours != NONE && bothWant(a, mine, b, yours, slack)) {
                            return 100 * slot + 10 * a + b;
                        }
                    }
                }
            }
            return NONE;
        }

        private boolean bothWant(int a, int mine, int b, int yours, int slack) {
            return fitOf(a, yours, slack) == FIT_AS_IS && fitOf(b, mine, slack) == FIT_AS_IS
                && likingOf(a, yours) > likingOf(a, mine)
                && likingOf(b, mine) > likingOf(b, yours);
        }

        void makeSwap(int slot, int a, int b) {
            int mine = wornBy(a, slot);
            int yours = wornBy(b, slot);
            if (hasThing(mine) && hasThing(yours)) {
                things[mine].wearer = b;
                things[yours].wearer = a;
            }
        }
    }

    /** Gives things to children: the most that are warm first, then the first in order. */
    private static final class Deal {
        private final int[] may = new int[MOST_CHILDREN];
        private final int[] got = new int[MOST_CHILDREN];
        // Lent things stand behind the own ones.
        private final int[] owner = new int[2 * MOST_THINGS];
        private final int[] seeker = new int[2 * MOST_THINGS];
        private final int[] queue = new int[MOST_CHILDREN];
        private int childCount;
        private int thingCount;
        private int warm;

        void make(Village village, int slot, int slack) {
            begin(village, slot, slack);
            warmAll();
            putInOrder();
        }

        void begin(Village village, int slot, int slack) {
            childCount = village.childCount;
            thingCount = village.thingCount;
            warm = 0;
            Arrays.fill(owner, NONE);
            for (int c = 0; c < childCount; c++) {
                got[c] = NONE;
                may[c] = 0;
                int size = village.children[c].size;
                for (int t = 0; t < thingCount; t++) {
                    Thing asked = village.things[t];
                    if (asked.slot == slot && asked.fitFor(c, size, slack) != NO_FIT) {
                        may[c] |= 1 << t;
                    }
                }
            }
        }

        void addLent(Village village, Village lender, int lent, int slack) {
            thingCount = MOST_THINGS + lender.thingCount;
            for (int c = 0; c < childCount; c++) {
                int size = village.children[c].size;
                for (int t = 0; t < lender.thingCount; t++) {
                    if ((lent >> t & 1) == 1 && lender.things[t].fitFor(c, size, slack) != NO_FIT) {
                        may[c] |= 1 << (MOST_THINGS + t);
                    }
                }
            }
        }

        void warmAll() {
            for (int c = 0; c < childCount; c++) {
                int free = seekFree(0, 0);
                if (free == NONE) {
                    break;
                }
                passAlong(free);
                warm++;
            }
        }

        int thingOf(int c) {
            return c >= 0 && c < childCount ? got[c] : NONE;
        }

        int leftOf(Village village, int slot, boolean keptToo) {
            int bits = 0;
            for (int t = 0; t < village.thingCount; t++) {
                Thing left = village.things[t];
                if (left.slot == slot && owner[t] == NONE && !left.isWornOut()
                    && (keptToo || left.kind != KEPT)) {
                    bits |= 1 << t;
                }
            }
            return bits;
        }

        /** A free thing that makes one more warm, from the given child on, if others move on for it. */
        private int seekFree(int from, int barred) {
            int waiting = 0;
            for (int c = from; c < childCount; c++) {
                if (got[c] == NONE) {
                    queue[waiting] = c;
                    waiting++;
                }
            }
            int seen = barred;
            for (int next = 0; next < waiting; next++) {
                int open = may[queue[next]] & ~seen;
                seen |= open;
                for (int t = 0; t < thingCount; t++) {
                    if ((open >> t & 1) == 1) {
                        seeker[t] = queue[next];
                        if (owner[t] == NONE) {
                            return t;
                        }
                        if (waiting < MOST_CHILDREN) {
                            queue[waiting] = owner[t];
                            waiting++;
                        }
                    }
                }
            }
            return NONE;
        }

        /** Each on the way takes what it sought and leaves what it had to the one before. */
        private void passAlong(int free) {
            int t = free;
            for (int step = 0; step < MOST_CHILDREN && t != NONE; step++) {
                int c = seeker[t];
                int left = got[c];
                give(c, t);
                t = left;
            }
        }

        void putInOrder() {
            int settled = 0;
            for (int c = 0; c < childCount; c++) {
                int open = may[c] & ~settled;
                for (int t = 0; t < thingCount; t++) {
                    if ((open >> t & 1) == 1 && (got[c] == t || canHave(c, t, settled))) {
                        settled |= 1 << t;
                        break;
                    }
                }
            }
        }

        /** Whether as many stay warm with it; if so, it has it behind this. */
        private boolean canHave(int c, int t, int settled) {
            int other = owner[t];
            int left = got[c];
            give(c, t);
            if (left != NONE) {
                owner[left] = NONE;
            }
            if (other == NONE) {
                return true;
            }
            got[other] = NONE;
            if (left == NONE) {
                return true;
            }
            // Any cold one does: who had to give the thing away need not be warm himself.
            int free = seekFree(c + 1, settled | (1 << t));
            if (free != NONE) {
                passAlong(free);
                return true;
            }
            give(other, t);
            give(c, left);
            return false;
        }

        private void give(int c, int t) {
            got[c] = t;
            owner[t] = c;
        }
    }

    /** Who can have left the marks: rows are counted by the set of children used so far. */
    private static final class MarkRows {
        private final int[] fitting = new int[MOST_MARKS];
        // Behind one set of children a row can end in the same ways, whatever their order was.
        private final int[] endings = new int[1 << MOST_CHILDREN];
        private final int[] reached = new int[1 << MOST_CHILDREN];
        private int childCount;
        private int markCount;

        void trace(Village village, int slack) {
            childCount = village.childCount;
            markCount = village.markCount;
            for (int k = 0; k < markCount; k++) {
                fitting[k] = fittingMark(village, k, slack);
            }
            for (int used = (1 << childCount) - 1; used >= 0; used--) {
                endings[used] = endingsBehind(used);
            }
        }

        private static int fittingMark(Village village, int k, int slack) {
            int bits = 0;
            for (int c = 0; c < village.childCount; c++) {
                Child grown = village.children[c];
                int size = Math.min(LARGEST, grown.size + k * grown.low);
                if (within(village.marks[k], size, size + slack)) {
                    bits |= 1 << c;
                }
            }
            return bits;
        }

        private int endingsBehind(int used) {
            int k = Integer.bitCount(used);
            if (k >= markCount) {
                return k == markCount ? 1 : 0;
            }
            int sum = 0;
            for (int c = 0; c < childCount; c++) {
                if (canFollow(c, k, used)) {
                    sum += endings[used | (1 << c)];
                }
            }
            return sum;
        }

        private boolean canFollow(int c, int k, int used) {
            return (fitting[k] & ~used & (1 << c)) != 0;
        }

        int howMany() {
            return endings[0];
        }

        int inFirst(int asked) {
            int used = 0;
            for (int k = 0; k < markCount; k++) {
                int c = firstBehind(used, k);
                if (c == NONE || k == asked) {
                    return c;
                }
                used |= 1 << c;
            }
            return NONE;
        }

        private int firstBehind(int used, int k) {
            for (int c = 0; c < childCount; c++) {
                if (canFollow(c, k, used) && endings[used | (1 << c)] > 0) {
                    return c;
                }
            }
            return NONE;
        }

        int firstOnes() {
            int bits = 0;
            for (int c = 0; c < childCount; c++) {
                if (canFollow(c, 0, 0) && endings[1 << c] > 0) {
                    bits |= 1 << c;
                }
            }
            return bits;
        }

        int lastOnes() {
            Arrays.fill(reached, 0);
            reached[0] = 1;
            int bits = 0;
            for (int used = 0; used < 1 << childCount; used++) {
                int k = Integer.bitCount(used);
                for (int c = 0; c < childCount && reached[used] == 1 && k < markCount; c++) {
                    if (canFollow(c, k, used)) {
                        reached[used | (1 << c)] = 1;
                        bits |= k == markCount - 1 ? 1 << c : 0;
                    }
                }
            }
            return bits;
        }
    }

    /** A row of one lane's cells, or nothing. */
    private static final class Sheet {
        private final int[] cells = new int[MOST_CELLS];
        private int lane = NONE;
        private int length = 0;

        boolean isNothing() {
            return lane == NONE;
        }

        boolean hasCell(int i) {
            return i >= 0 && i < length;
        }

        int cellAt(int i) {
            return hasCell(i) ? cells[i] : 0;
        }

        void renew(int newLane, int newLength) {
            lane = newLane;
            length = newLength;
            Arrays.fill(cells, 0);
        }

        /** What the machine finds before it looks at any cell. */
        int faultAs(int asLane) {
            if (isNothing()) {
                return NULL_FAULT;
            }
            return lane == asLane ? 0 : CAST_FAULT;
        }

        void setCell(int i, int v) {
            switch (lane) {
                case 0: cells[i] = (byte) v; break;
                case 1: cells[i] = (short) v; break;
                default: cells[i] = v;
            }
        }
    }
}
