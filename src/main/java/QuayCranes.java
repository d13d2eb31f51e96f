import java.util.NoSuchElementException;

/** Cranes on one line of bays along a quay: they keep their gap, push one another on and never cross. */
public final class QuayCranes {
    public static final int NONE = -1;
    public static final int HIDDEN = -1000000;

    private static final int BEYOND = -2;
    private static final int MOST_BYTES = 400;
    private static final int MOST_CRANES = 4;
    private static final int MOST_TASKS = 8;
    private static final int MOST_LINES = 40;
    private static final int MOST_ACTS = 10;
    private static final int MOST_BEST = 5;
    private static final int MOST_MORE = 61;
    private static final int FAR = 300;
    private static final int LATEST = 500;

    private static final int RESTS = 0;
    private static final int STEPS = 1;
    private static final int PUSHED = 2;
    private static final int WAITS = 3;
    private static final int WORKS = 4;

    private static final int NOT_THERE = 0;
    private static final int OUT_OF_BOUNDS = 1;
    private static final int SO_ALREADY = 2;
    private static final int NO_ROOM = 3;

    private final Reader reader = new Reader();
    private final Tape tape = reader.tape;
    private final Yard now = new Yard();
    private final Yard apart = new Yard();
    private final Yard image = new Yard();
    private boolean imaged;
    private final Acts acts = new Acts();
    private final Course course = new Course();
    private final Search search = new Search();
    private final Choice best = new Choice();
    private final Choice easy = new Choice();
    private final Choice zones = new Choice();
    private final Choice better = new Choice();
    private final Choice[] lacking = new Choice[MOST_CRANES];
    private final int[] refused = new int[4];

    public QuayCranes() {
        for (int c = 0; c < lacking.length; c++) {
            lacking[c] = new Choice();
        }
    }

    // ---- the tape and the quay

    public int feed(int a, int b, int c, int d, int e) {
        int many = bytesIn(a) + bytesIn(b) + bytesIn(c) + bytesIn(d) + bytesIn(e);
        if (tape.length + many > MOST_BYTES) {
            return NONE;
        }
        tape.append(a);
        tape.append(b);
        tape.append(c);
        tape.append(d);
        tape.append(e);
        return tape.length;
    }

    public boolean end(int n) {
        if (n < 0 || n > tape.length) {
            return false;
        }
        tape.length = n;
        return true;
    }

    public int fault(int what) {
        if (what == 0) {
            return reader.readsQuay() ? NONE : tape.start;
        }
        if (!hasQuay() || what < 0 || what > 2) {
            return BEYOND;
        }
        boolean fine = what == 1 ? reader.readsPlan(now) : reader.readsMoves(now.cranes);
        return fine ? NONE : tape.start;
    }

    public int quay() {
        if (!reader.readsQuay()) {
            return NONE;
        }
        now.copyOf(reader.draft);
        tape.length = 0;
        imaged = false;
        acts.forget();
        changed();
        return now.tasks;
    }

    // ---- the acts

    public int plan() {
        if (!hasQuay()) {
            refuse(NOT_THERE);
            return HIDDEN;
        }
        if (!reader.readsPlan(now)) {
            refuse(OUT_OF_BOUNDS);
            return HIDDEN;
        }
        acts.keep(now);
        now.plan.copyOf(reader.told);
        tape.length = 0;
        changed();
        return ahead().last;
    }

    public int go(int n) {
        if (!hasQuay()) {
            return refuse(NOT_THERE);
        }
        if (n < 1 || n > 100 || now.minute + n > LATEST) {
            return refuse(OUT_OF_BOUNDS);
        }
        acts.keep(now);
        for (int m = 0; m < n; m++) {
            now.pass();
        }
        changed();
        return now.minute;
    }

    public int breaks(int crane, boolean is) {
        if (!isCrane(crane)) {
            return refuse(NOT_THERE);
        }
        if (now.isBroken(crane) == is) {
            return refuse(SO_ALREADY);
        }
        acts.keep(now);
        now.broken ^= 1 << crane;
        changed();
        return Integer.bitCount(now.broken);
    }

    public int more(int bay, int takes, int heavy, int after) {
        if (!hasQuay() || bay < 0 || bay >= now.bays || after != NONE && !isTask(after)) {
            return refuse(NOT_THERE);
        }
        if (takes < 1 || takes > 30 || heavy < 1 || heavy > 99) {
            return refuse(OUT_OF_BOUNDS);
        }
        if (now.tasks >= MOST_TASKS) {
            return refuse(NO_ROOM);
        }
        acts.keep(now);
        int added = now.addTask(bay, takes, heavy, after == NONE ? 0 : 1 << after);
        changed();
        return added;
    }

    // ---- what is so now

    public int rule(int what) {
        if (!hasQuay()) {
            return HIDDEN;
        }
        switch (what) {
            case 0: return now.bays;
            case 1: return now.gap;
            case 2: return now.cranes;
            case 3: return now.tasks;
            case 4: return now.minute;
            case 5: return now.done;
            case 6: return now.broken;
            case 7: return now.plan.bits();
            default: return HIDDEN;
        }
    }

    public int crane(int crane, int what) throws NoSuchElementException {
        if (!isCrane(crane) || what < 0 || what > 5) {
            throw new NoSuchElementException();
        }
        switch (what) {
            case 0: return now.bay[crane];
            case 1: return now.lift[crane];
            case 2: return now.nextOf(crane);
            case 3: return now.plan.size[crane];
            case 4: return (int) (now.sway[crane] * 10f);
            default: return bitsOfFloat(now.sway[crane]);
        }
    }

    public int task(int task, int what) {
        if (!isTask(task)) {
            return NONE;
        }
        switch (what) {
            case 0: return now.site[task];
            case 1: return now.takes[task];
            case 2: return now.heavy[task];
            case 3: return now.after[task];
            case 4: return now.did[task];
            case 5: return now.isDone(task) ? 1 : 0;
            case 6: return now.plan.holder(task);
            case 7: return now.doneAt[task];
            case 8: return now.doer[task];
            default: return NONE;
        }
    }

    // ---- plans

    public int last() {
        return hasQuay() ? ahead().last : HIDDEN;
    }

    public int where(int crane, int m) {
        return isCrane(crane) && isSpan(m) ? ahead().bayAt(crane, m) : NONE;
    }

    public int deed(int crane, int m) {
        return isCrane(crane) && isSpan(m) && m < FAR ? ahead().deedAt(crane, m) : NONE;
    }

    public int deeds(int crane, int n, int deed) {
        if (!isCrane(crane) || !isSpan(n) || deed < RESTS || deed > WORKS) {
            return NONE;
        }
        return ahead().deedsOf(crane, n, deed);
    }

    public int doneBy(int task) {
        return isTask(task) ? ahead().doneIn[task] : NONE;
    }

    public int tried() {
        if (!hasQuay() || !reader.readsPlan(now)) {
            return HIDDEN;
        }
        tape.length = 0;
        apart.copyOf(now);
        apart.plan.copyOf(reader.told);
        return apart.lastWithin(FAR);
    }

    public int moves() {
        if (!hasQuay() || !reader.readsMoves(now.cranes)) {
            return HIDDEN;
        }
        tape.length = 0;
        for (int line = 0; line < reader.lines; line++) {
            if (!isTrue(line)) {
                return line;
            }
        }
        return NONE;
    }

    public int best(int what) {
        if (!canTell(what)) {
            return HIDDEN;
        }
        if (tooManyLeft()) {
            return BEYOND;
        }
        search.findBest(now, 0, best);
        return best.tell(what);
    }

    public int easy(int what) {
        if (!canTell(what)) {
            return HIDDEN;
        }
        search.findEasy(now, easy);
        return easy.tell(what);
    }

    public int zones(int what) {
        if (!canTell(what)) {
            return HIDDEN;
        }
        search.findZones(now, zones);
        return zones.tell(what);
    }

    public int better(int what) {
        if (!hasQuay() || what < 0 || what > 3) {
            return HIDDEN;
        }
        search.findBetter(now, ahead().last, better);
        if (better.last == NONE) {
            return NONE;
        }
        switch (what) {
            case 0: return better.last;
            case 1: return better.task;
            case 2: return better.plan.holder(better.task);
            default: return better.plan.spot(better.task);
        }
    }

    public int follow(int which) {
        if (!hasQuay()) {
            return refuse(NOT_THERE);
        }
        if (which < 0 || which > 3 || which == 2 && tooManyLeft()) {
            return refuse(OUT_OF_BOUNDS);
        }
        Choice choice = which == 0 ? easy : which == 1 ? zones : which == 2 ? best : better;
        switch (which) {
            case 0: search.findEasy(now, easy); break;
            case 1: search.findZones(now, zones); break;
            case 2: search.findBest(now, 0, best); break;
            default: search.findBetter(now, ahead().last, better); break;
        }
        if (choice.last == NONE) {
            return refuse(OUT_OF_BOUNDS);
        }
        acts.keep(now);
        now.plan.copyOf(choice.plan);
        changed();
        return ahead().last;
    }

    public int written(int k) {
        if (!hasQuay() || k < NONE) {
            return NONE;
        }
        int start = 0;
        for (int c = 0; c < now.cranes; c++) {
            int size = 1 + 2 * now.plan.size[c];
            if (k >= start && k < start + size) {
                return writtenOf(c, k - start);
            }
            start += size;
            if (c + 1 < now.cranes) {
                if (k == start) {
                    return ';';
                }
                start++;
            }
        }
        return k == NONE ? start : NONE;
    }

    public int nearest(int n) {
        if (now.cranes < 2 || !isSpan(n)) {
            return NONE;
        }
        Course way = ahead();
        int least = now.bays;
        for (int m = 0; m <= n; m++) {
            for (int c = 1; c < now.cranes; c++) {
                least = Math.min(least, way.bayAt(c, m) - way.bayAt(c - 1, m) - now.gap);
            }
        }
        return least;
    }

    public int swings(int crane, int n) {
        if (!isCrane(crane) || !isSpan(n)) {
            return NONE;
        }
        Course way = ahead();
        float greatest = 0f;
        for (int m = 0; m <= n; m++) {
            float sway = way.swayAt(crane, m);
            greatest = sway > greatest ? sway : greatest;
        }
        return bitsOfFloat(greatest);
    }

    public int idle(int n) {
        return hasQuay() && isSpan(n) ? ahead().idleIn(n, now.cranes) : NONE;
    }

    public int dearest(int what) {
        if (!hasQuay() || what < 0 || what > 1) {
            return HIDDEN;
        }
        if (tooManyLeft()) {
            return BEYOND;
        }
        int dear = NONE;
        int price = NONE;
        for (int c = 0; c < now.cranes; c++) {
            if (!now.isBroken(c)) {
                search.findBest(now, 1 << c, lacking[c]);
                // none costs more than any LAST
                int cost = lacking[c].last == NONE ? FAR + 1 : lacking[c].last;
                if (cost > price) {
                    dear = c;
                    price = cost;
                }
            }
        }
        return what == 0 ? dear : price > FAR ? NONE : price;
    }

    public int bound(int what) {
        if (!hasQuay() || what < 0 || what > 3) {
            return HIDDEN;
        }
        return now.boundOf(what);
    }

    public int without(int crane) {
        if (!isCrane(crane)) {
            return HIDDEN;
        }
        if (tooManyLeft()) {
            return BEYOND;
        }
        search.findBest(now, 1 << crane, lacking[crane]);
        return lacking[crane].last;
    }

    public int slack(int task) {
        if (!isTask(task) || now.isDone(task)) {
            return HIDDEN;
        }
        int last = ahead().last;
        if (last == NONE) {
            return NONE;
        }
        for (int x = 1; x <= MOST_MORE; x++) {
            apart.copyOf(now);
            apart.takes[task] += x;
            // one that lasts longer is another one, however long
            if (apart.lastWithin(last) != last) {
                return x - 1;
            }
        }
        return MOST_MORE;
    }

    public long mean(int what) {
        if (now.tasks < 1 || what < 0 || what > 1) {
            return HIDDEN;
        }
        int sum = 0;
        for (int t = 0; t < now.tasks; t++) {
            sum += what == 0 ? now.site[t] : now.takes[t];
        }
        return bitsOfDouble((double) sum / (double) now.tasks);
    }

    // ---- more

    public int undo() {
        if (!acts.canUndo()) {
            return NONE;
        }
        acts.takeBack(now);
        changed();
        return acts.many;
    }

    public int image() {
        if (!hasQuay()) {
            return NONE;
        }
        image.copyOf(now);
        imaged = true;
        return now.minute;
    }

    public int back() {
        if (!imaged) {
            return NONE;
        }
        now.copyOf(image);
        acts.forget();
        changed();
        return now.minute;
    }

    public int status(int what) {
        return what >= 0 && what < refused.length ? refused[what] : NONE;
    }

    public int most(int what) {
        if (!hasQuay()) {
            return NONE;
        }
        switch (what) {
            case 0: return now.busiestCrane();
            case 1: return now.busiestBay();
            case 2: return now.longestTask();
            case 3: return now.wildestCrane();
            default: return NONE;
        }
    }

    public int count(int what) {
        return what == 0 ? tape.length : what == 1 ? acts.many : NONE;
    }

    // ---- helpers of the calls

    private boolean hasQuay() {
        return now.cranes > 0;
    }

    private boolean isCrane(int crane) {
        return crane >= 0 && crane < now.cranes;
    }

    private boolean isTask(int task) {
        return task >= 0 && task < now.tasks;
    }

    private boolean isSpan(int minutes) {
        return minutes >= 0 && minutes <= FAR;
    }

    private boolean canTell(int what) {
        return hasQuay() && (what == NONE || isTask(what) || isTask(what - 10));
    }

    private boolean tooManyLeft() {
        return Integer.bitCount(now.leftBits()) > MOST_BEST;
    }

    private int refuse(int why) {
        if (why >= 0 && why < refused.length) {
            refused[why]++;
        }
        return NONE;
    }

    /** What was found for things as they were holds no more. */
    private void changed() {
        course.known = false;
        best.known = false;
        easy.known = false;
        zones.known = false;
        better.known = false;
        for (int c = 0; c < lacking.length; c++) {
            lacking[c].known = false;
        }
    }

    private Course ahead() {
        if (!course.known) {
            apart.copyOf(now);
            course.goThrough(apart);
        }
        return course;
    }

    /** The k-th byte of what is WRITTEN of one crane: its number, then a blank and a task in turn. */
    private int writtenOf(int crane, int k) {
        if (k == 0) {
            return '0' + crane;
        }
        return k % 2 == 1 ? ' ' : '0' + now.plan.at(crane, k / 2 - 1);
    }

    private boolean isTrue(int line) {
        for (int c = 0; c < now.cranes; c++) {
            int bay = reader.bayTold(line, c);
            if (bay < 0 || bay >= now.bays) {
                return false;
            }
            if (c > 0 && bay - reader.bayTold(line, c - 1) < now.gap) {
                return false;
            }
            int gone = Math.abs(bay - (line == 0 ? now.bay[c] : reader.bayTold(line - 1, c)));
            if (gone > (line == 0 || now.isBroken(c) ? 0 : 1)) {
                return false;
            }
        }
        return true;
    }

    private static int bytesIn(int number) {
        int many = 0;
        for (int shift = 24; shift >= 0; shift -= 8) {
            if ((number >>> shift & 255) != 0) {
                many++;
            }
        }
        return many;
    }

    /** The bits of a float that isn't negative; by hand, as no library function may be used for it. */
    private static int bitsOfFloat(float value) {
        float rest = value;
        int power = 0;
        for (int k = 0; k < 200 && rest >= 2f; k++) {
            rest = rest * 0.5f;
            power++;
        }
        for (int k = 0; k < 200 && rest < 1f && power > -126; k++) {
            rest = rest * 2f;
            power--;
        }
        if (rest < 1f) {
            return (int) (rest * 8388608f);
        }
        return power + 127 << 23 | (int) ((rest - 1f) * 8388608f);
    }

    /** The bits of a double that is 0 or lies between 0.1 and 100. */
    private static long bitsOfDouble(double value) {
        double rest = value;
        int power = 0;
        for (int k = 0; k < 1100 && rest >= 2.0; k++) {
            rest = rest * 0.5;
            power++;
        }
        for (int k = 0; k < 1100 && rest < 1.0 && power > -1022; k++) {
            rest = rest * 2.0;
            power--;
        }
        if (rest < 1.0) {
            return (long) (rest * 4503599627370496.0);
        }
        return (long) (power + 1023) << 52 | (long) ((rest - 1.0) * 4503599627370496.0);
    }

    /** The bytes that were fed, and the part of them that is looked at. */
    private static final class Tape {
        static final int ENDED = 0;
        static final int WORD = 1;
        static final int NUMBER = 2;
        static final int MARK = 3;
        static final int OTHER = 4;

        final int[] bytes = new int[MOST_BYTES];
        int length;
        int start;
        int kind;
        int value;
        private int cursor;

        void append(int number) {
            for (int shift = 24; shift >= 0; shift -= 8) {
                int one = number >>> shift & 255;
                if (one != 0 && length < bytes.length) {
                    bytes[length] = one;
                    length++;
                }
            }
        }

        void rewind() {
            cursor = 0;
            advance();
        }

        /** Goes on to the next part; behind the last one the part is ENDED, at the length. */
        void advance() {
            while (cursor < length && byteAt(cursor) == ' ') {
                cursor++;
            }
            start = cursor;
            if (cursor >= length) {
                kind = ENDED;
            } else if (isLetter(byteAt(cursor))) {
                kind = WORD;
                while (cursor < length && isLetter(byteAt(cursor))) {
                    cursor++;
                }
            } else if (isDigit(byteAt(cursor))) {
                kind = NUMBER;
                int sum = 0;
                while (cursor < length && isDigit(byteAt(cursor))) {
                    // kept small: of more digits than two the sum is not looked at
                    sum = sum % 10 * 10 + byteAt(cursor) - '0';
                    cursor++;
                }
                value = cursor - start > 2 ? NONE : sum;
            } else {
                kind = byteAt(cursor) == ';' ? MARK : OTHER;
                cursor++;
            }
        }

        boolean isWord(String word) {
            if (kind != WORD || cursor - start != word.length()) {
                return false;
            }
            for (int k = 0; k < word.length(); k++) {
                if (byteAt(start + k) != word.charAt(k)) {
                    return false;
                }
            }
            return true;
        }

        boolean isNumber(int least, int greatest) {
            return kind == NUMBER && value >= least && value <= greatest;
        }

        /** Takes a NUMBER that isNumber has found good, and goes on. */
        int taken() {
            int number = value;
            advance();
            return number;
        }

        private int byteAt(int k) {
            return k >= 0 && k < bytes.length ? bytes[k] : 0;
        }

        private static boolean isLetter(int one) {
            return one >= 'a' && one <= 'z';
        }

        private static boolean isDigit(int one) {
            return one >= '0' && one <= '9';
        }
    }

    /** Reads the tape as a QUAY, a PLAN, MOVES; where one can't, the tape stands at the part at FAULT. */
    private static final class Reader {
        final Tape tape = new Tape();
        final Yard draft = new Yard();
        final Plan told = new Plan();
        final int[] rows = new int[MOST_LINES * MOST_CRANES];
        int lines;

        boolean readsQuay() {
            draft.clear();
            tape.rewind();
            if (!isNamed("bays", 2, 30)) {
                return false;
            }
            draft.bays = tape.taken();
            if (!isNextLine()) {
                return false;
            }
            if (tape.isWord("gap")) {
                if (!isNamed("gap", 1, 5)) {
                    return false;
                }
                draft.gap = tape.taken();
                if (!isNextLine()) {
                    return false;
                }
            }
            for (int c = 0; c == 0 || c < MOST_CRANES && tape.isWord("crane"); c++) {
                if (!readsCrane()) {
                    return false;
                }
                if (tape.kind == Tape.ENDED) {
                    return true;
                }
                if (!isNextLine()) {
                    return false;
                }
            }
            return readsTasks();
        }

        boolean readsPlan(Yard yard) {
            told.clear();
            tape.rewind();
            if (tape.kind == Tape.ENDED) {
                return true;
            }
            int named = 0;
            for (int line = 0; line < MOST_CRANES; line++) {
                if (!tape.isNumber(0, yard.cranes - 1)) {
                    return false;
                }
                int crane = tape.value;
                if ((named >> crane & 1) != 0 || !readsList(yard, crane)) {
                    return false;
                }
                named |= 1 << crane;
                if (tape.kind == Tape.ENDED) {
                    return true;
                }
                if (!isNextLine()) {
                    return false;
                }
            }
            // all cranes have had their lines: no line more can stand here
            return false;
        }

        boolean readsMoves(int cranes) {
            lines = 0;
            tape.rewind();
            for (int line = 0; line < MOST_LINES; line++) {
                for (int c = 0; c < cranes; c++) {
                    if (!tape.isNumber(0, 99)) {
                        return false;
                    }
                    int place = line * MOST_CRANES + c;
                    if (place < rows.length) {
                        rows[place] = tape.value;
                    }
                    tape.advance();
                }
                lines = line + 1;
                if (tape.kind == Tape.ENDED) {
                    return true;
                }
                if (!isNextLine()) {
                    return false;
                }
            }
            return false;
        }

        int bayTold(int line, int crane) {
            int place = line * MOST_CRANES + crane;
            return place >= 0 && place < rows.length ? rows[place] : NONE;
        }

        /** The word, and behind it a number within bounds, at which the tape then stands. */
        private boolean isNamed(String word, int least, int greatest) {
            if (!tape.isWord(word)) {
                return false;
            }
            tape.advance();
            return tape.isNumber(least, greatest);
        }

        private boolean isNextLine() {
            if (tape.kind != Tape.MARK) {
                return false;
            }
            tape.advance();
            return true;
        }

        private boolean readsCrane() {
            int least = draft.cranes == 0 ? 0 : draft.bay[draft.cranes - 1] + draft.gap;
            if (!isNamed("crane", least, draft.bays - 1)) {
                return false;
            }
            int bay = tape.taken();
            int lift = 99;
            if (tape.isWord("lift")) {
                if (!isNamed("lift", 1, 99)) {
                    return false;
                }
                lift = tape.taken();
            }
            draft.addCrane(bay, lift);
            return true;
        }

        private boolean readsTasks() {
            for (int t = 0; t < MOST_TASKS; t++) {
                if (!readsTask(t)) {
                    return false;
                }
                if (tape.kind == Tape.ENDED) {
                    return true;
                }
                if (!isNextLine()) {
                    return false;
                }
            }
            return false;
        }

        private boolean readsTask(int task) {
            if (!tape.isWord("task")) {
                return false;
            }
            tape.advance();
            if (!isNamed("at", 0, draft.bays - 1)) {
                return false;
            }
            int site = tape.taken();
            if (!isNamed("takes", 1, 30)) {
                return false;
            }
            int takes = tape.taken();
            int heavy = 1;
            if (tape.isWord("heavy")) {
                if (!isNamed("heavy", 1, 99)) {
                    return false;
                }
                heavy = tape.taken();
            }
            int after = 0;
            for (int k = 0; k < MOST_BYTES && tape.isWord("after"); k++) {
                if (!isNamed("after", 0, task - 1)) {
                    return false;
                }
                after |= 1 << tape.taken();
            }
            draft.addTask(site, takes, heavy, after);
            return true;
        }

        /** Reads on from a crane's number: the tasks that it is told. */
        private boolean readsList(Yard yard, int crane) {
            tape.advance();
            for (int k = 0; k < MOST_BYTES && tape.kind == Tape.NUMBER; k++) {
                if (!tape.isNumber(0, yard.tasks - 1)) {
                    return false;
                }
                int task = tape.value;
                if (yard.isDone(task) || !yard.canLift(crane, task) || told.holder(task) != NONE) {
                    return false;
                }
                told.add(crane, task);
                tape.advance();
            }
            return true;
        }
    }

    /** For each crane the tasks that it is told, in turn. */
    private static final class Plan {
        final int[] list = new int[MOST_CRANES * MOST_TASKS];
        final int[] size = new int[MOST_CRANES];

        void clear() {
            for (int c = 0; c < size.length; c++) {
                size[c] = 0;
            }
        }

        void copyOf(Plan other) {
            for (int k = 0; k < list.length; k++) {
                list[k] = other.list[k];
            }
            for (int c = 0; c < size.length; c++) {
                size[c] = other.size[c];
            }
        }

        int at(int crane, int place) {
            if (crane < 0 || crane >= size.length || place < 0 || place >= size[crane] || place >= MOST_TASKS) {
                return NONE;
            }
            return list[crane * MOST_TASKS + place];
        }

        void add(int crane, int task) {
            if (crane >= 0 && crane < size.length) {
                insert(crane, size[crane], task);
            }
        }

        void insert(int crane, int place, int task) {
            if (crane < 0 || crane >= size.length || size[crane] >= MOST_TASKS || place < 0 || place > size[crane]) {
                return;
            }
            int start = crane * MOST_TASKS;
            for (int k = size[crane]; k > place; k--) {
                list[start + k] = list[start + k - 1];
            }
            list[start + place] = task;
            size[crane]++;
        }

        void remove(int task) {
            int crane = holder(task);
            int place = spot(task);
            if (crane == NONE || place == NONE) {
                return;
            }
            int start = crane * MOST_TASKS;
            size[crane]--;
            for (int k = place; k < size[crane]; k++) {
                list[start + k] = list[start + k + 1];
            }
        }

        void dropLast(int crane) {
            if (crane >= 0 && crane < size.length && size[crane] > 0) {
                size[crane]--;
            }
        }

        int holder(int task) {
            int found = find(task);
            return found < 0 ? NONE : found / MOST_TASKS;
        }

        int spot(int task) {
            int found = find(task);
            return found < 0 ? NONE : found % MOST_TASKS;
        }

        private int find(int task) {
            for (int c = 0; c < size.length; c++) {
                for (int k = 0; k < MOST_TASKS && k < size[c]; k++) {
                    if (list[c * MOST_TASKS + k] == task) {
                        return c * MOST_TASKS + k;
                    }
                }
            }
            return NONE;
        }

        int bits() {
            int bits = 0;
            for (int c = 0; c < size.length; c++) {
                for (int k = 0; k < MOST_TASKS && k < size[c]; k++) {
                    bits |= 1 << list[c * MOST_TASKS + k];
                }
            }
            return bits;
        }
    }

    /** The quay with all that stands on it: cranes, tasks, the plan that holds, the minute. */
    private static final class Yard {
        int bays;
        int gap;
        int cranes;
        int tasks;
        int minute;
        int broken;
        int done;
        final int[] bay = new int[MOST_CRANES];
        final int[] lift = new int[MOST_CRANES];
        final float[] sway = new float[MOST_CRANES];
        final int[] next = new int[MOST_CRANES];
        final int[] deed = new int[MOST_CRANES];
        final int[] site = new int[MOST_TASKS];
        final int[] takes = new int[MOST_TASKS];
        final int[] heavy = new int[MOST_TASKS];
        final int[] after = new int[MOST_TASKS];
        final int[] did = new int[MOST_TASKS];
        final int[] doneAt = new int[MOST_TASKS];
        final int[] doer = new int[MOST_TASKS];
        final Plan plan = new Plan();

        void clear() {
            bays = 0;
            gap = 1;
            cranes = 0;
            tasks = 0;
            minute = 0;
            broken = 0;
            done = 0;
            plan.clear();
        }

        void copyOf(Yard other) {
            bays = other.bays;
            gap = other.gap;
            cranes = other.cranes;
            tasks = other.tasks;
            minute = other.minute;
            broken = other.broken;
            done = other.done;
            for (int c = 0; c < bay.length; c++) {
                bay[c] = other.bay[c];
                lift[c] = other.lift[c];
                sway[c] = other.sway[c];
            }
            for (int t = 0; t < site.length; t++) {
                site[t] = other.site[t];
                takes[t] = other.takes[t];
                heavy[t] = other.heavy[t];
                after[t] = other.after[t];
                did[t] = other.did[t];
                doneAt[t] = other.doneAt[t];
                doer[t] = other.doer[t];
            }
            plan.copyOf(other.plan);
        }

        void addCrane(int where, int lifts) {
            if (cranes < MOST_CRANES) {
                bay[cranes] = where;
                lift[cranes] = lifts;
                sway[cranes] = 0f;
                cranes++;
            }
        }

        int addTask(int where, int minutes, int weight, int behind) {
            if (tasks >= MOST_TASKS) {
                return NONE;
            }
            int task = tasks;
            site[task] = where;
            takes[task] = minutes;
            heavy[task] = weight;
            after[task] = behind;
            did[task] = 0;
            doneAt[task] = NONE;
            doer[task] = NONE;
            tasks++;
            return task;
        }

        boolean isBroken(int crane) {
            return (broken >> crane & 1) != 0;
        }

        boolean isDone(int task) {
            return (done >> task & 1) != 0;
        }

        boolean canLift(int crane, int task) {
            return heavy[task] <= lift[crane];
        }

        /** Whether a crane could ever stand at a task's bay: broken ones and the ends of the quay leave no room behind. */
        boolean canReach(int crane, int task) {
            int low = gap * crane;
            int high = bays - 1 - gap * (cranes - 1 - crane);
            for (int c = 0; c < cranes; c++) {
                if ((broken >> c & 1) != 0) {
                    int nearest = bay[c] + gap * (crane - c);
                    low = c < crane ? Math.max(low, nearest) : low;
                    high = c > crane ? Math.min(high, nearest) : high;
                }
            }
            return site[task] >= low && site[task] <= high;
        }

        int leftBits() {
            return (1 << tasks) - 1 & ~done;
        }

        int nextOf(int crane) {
            for (int k = 0; k < MOST_TASKS && k < plan.size[crane]; k++) {
                int task = plan.list[crane * MOST_TASKS + k];
                if (task >= 0 && task < tasks && (done >> task & 1) == 0) {
                    return task;
                }
            }
            return NONE;
        }

        /** In how many minutes all tasks told are done, if the limit isn't passed; the yard is used up. */
        int lastWithin(int limit) {
            int told = plan.bits();
            for (int m = 0; m <= limit; m++) {
                if ((told & ~done) == 0) {
                    return m;
                }
                if (!pass()) {
                    return NONE;
                }
            }
            return NONE;
        }

        /** A minute goes by. False: nothing can ever change any more. */
        boolean pass() {
            for (int c = 0; c < cranes; c++) {
                next[c] = nextOf(c);
            }
            boolean stirred = begin();
            for (int c = 0; c < cranes; c++) {
                if (deed[c] == WAITS) {
                    step(c);
                }
            }
            minute++;
            return swing() | stirred;
        }

        /** Who works is settled as the minute begins. True: someone works, or swings too much to. */
        private boolean begin() {
            boolean stirred = false;
            for (int c = 0; c < cranes; c++) {
                int task = next[c];
                boolean calm = sway[c] < 1f;
                if (task < 0 || (broken >> c & 1) != 0) {
                    deed[c] = RESTS;
                } else if (calm && bay[c] == site[task] && (after[task] & ~done) == 0) {
                    deed[c] = WORKS;
                } else {
                    deed[c] = WAITS;
                }
                stirred |= !calm || deed[c] == WORKS;
            }
            return stirred;
        }

        /** A crane that waits steps towards its next task, if all that stand in its way can be pushed. */
        private void step(int crane) {
            int task = next[crane];
            if (task < 0 || site[task] == bay[crane]) {
                return;
            }
            int way = site[task] > bay[crane] ? 1 : -1;
            int many = 0;
            boolean free = false;
            for (int c = crane; c >= 0 && c < cranes && !free; c += way) {
                boolean still = deed[c] == WAITS || deed[c] == RESTS && (broken >> c & 1) == 0;
                int there = bay[c] + way;
                if (!still || there < 0 || there >= bays) {
                    return;
                }
                int beside = c + way;
                free = beside < 0 || beside >= cranes || (bay[beside] - there) * way >= gap;
                many++;
            }
            for (int k = 0; k < many; k++) {
                int c = crane + k * way;
                if (c >= 0 && c < cranes) {
                    bay[c] += way;
                    deed[c] = k == 0 ? STEPS : PUSHED;
                }
            }
        }

        /** Loads swing on or calm down, work goes on. True: someone moved. */
        private boolean swing() {
            boolean stirred = false;
            for (int c = 0; c < cranes; c++) {
                if (deed[c] == STEPS || deed[c] == PUSHED) {
                    sway[c] = sway[c] * 0.75f;
                    sway[c] = sway[c] + 1.5f;
                    stirred = true;
                } else {
                    sway[c] = sway[c] * 0.5f;
                }
                int task = next[c];
                if (deed[c] == WORKS && task >= 0) {
                    did[task]++;
                    if (did[task] >= takes[task]) {
                        done |= 1 << task;
                        doneAt[task] = minute;
                        doer[task] = c;
                    }
                }
            }
            return stirred;
        }

        /** BOUND: the greatest (0), or one of its three sorts; none of them, if all cranes are broken. */
        int boundOf(int what) {
            if (leftBits() == 0) {
                return 0;
            }
            int able = cranes - Integer.bitCount(broken);
            if (able < 1) {
                return NONE;
            }
            int row = longestRow();
            int share = (leftWithin(0, bays) + able - 1) / able;
            int crowd = busiestBays(Math.min(gap, bays));
            switch (what) {
                case 1: return row;
                case 2: return share;
                case 3: return crowd;
                default: return Math.max(row, Math.max(share, crowd));
            }
        }

        int leftWithin(int from, int behind) {
            int sum = 0;
            for (int t = 0; t < tasks; t++) {
                if (site[t] >= from && site[t] < behind) {
                    sum += takes[t] - did[t];
                }
            }
            return sum;
        }

        private int busiestBays(int width) {
            int most = 0;
            for (int b = 0; b + width <= bays; b++) {
                most = Math.max(most, leftWithin(b, b + width));
            }
            return most;
        }

        int busiestBay() {
            int found = 0;
            for (int b = 1; b < bays; b++) {
                if (leftWithin(b, b + 1) > leftWithin(found, found + 1)) {
                    found = b;
                }
            }
            return found;
        }

        int busiestCrane() {
            int found = 0;
            for (int c = 1; c < cranes; c++) {
                if (leftOf(c) > leftOf(found)) {
                    found = c;
                }
            }
            return found;
        }

        int wildestCrane() {
            int found = 0;
            for (int c = 1; c < cranes; c++) {
                if (sway[c] > sway[found]) {
                    found = c;
                }
            }
            return found;
        }

        int longestTask() {
            int found = NONE;
            for (int t = 0; t < tasks; t++) {
                if (found == NONE || takes[t] > takes[found]) {
                    found = t;
                }
            }
            return found;
        }

        /** The minutes left in the longest row of tasks, each behind the one ahead of it. */
        private int longestRow() {
            int most = 0;
            for (int t = 0; t < tasks; t++) {
                most = Math.max(most, rowTo(this, t, 0));
            }
            return most;
        }

        private static int rowTo(Yard yard, int task, int depth) {
            if (depth > MOST_TASKS || task < 0 || task >= yard.tasks) {
                return 0;
            }
            int ahead = 0;
            for (int t = 0; t < task; t++) {
                if ((yard.after[task] >> t & 1) != 0) {
                    ahead = Math.max(ahead, rowTo(yard, t, depth + 1));
                }
            }
            return ahead + yard.takes[task] - yard.did[task];
        }

        private int leftOf(int crane) {
            int sum = 0;
            for (int k = 0; k < plan.size[crane]; k++) {
                int task = plan.at(crane, k);
                if (task >= 0 && task < tasks) {
                    sum += takes[task] - did[task];
                }
            }
            return sum;
        }
    }

    /** The 300 minutes from now, gone through by the plan that holds. */
    private static final class Course {
        final int[] bay = new int[(FAR + 1) * MOST_CRANES];
        final float[] sway = new float[(FAR + 1) * MOST_CRANES];
        final int[] deed = new int[FAR * MOST_CRANES];
        final int[] doneIn = new int[MOST_TASKS];
        int last;
        boolean known;

        /** The yard is used up. */
        void goThrough(Yard yard) {
            int told = yard.plan.bits();
            last = NONE;
            for (int t = 0; t < doneIn.length; t++) {
                doneIn[t] = NONE;
            }
            for (int m = 0; m <= FAR; m++) {
                mark(yard, m);
                if (last == NONE && (told & ~yard.done) == 0) {
                    last = m;
                }
                if (m < FAR) {
                    yard.pass();
                    markDeeds(yard, m);
                }
            }
            known = true;
        }

        private void mark(Yard yard, int m) {
            for (int c = 0; c < MOST_CRANES; c++) {
                bay[m * MOST_CRANES + c] = yard.bay[c];
                sway[m * MOST_CRANES + c] = yard.sway[c];
            }
            for (int t = 0; t < yard.tasks; t++) {
                if (doneIn[t] == NONE && yard.isDone(t)) {
                    doneIn[t] = m;
                }
            }
        }

        private void markDeeds(Yard yard, int m) {
            for (int c = 0; c < MOST_CRANES; c++) {
                deed[m * MOST_CRANES + c] = yard.deed[c];
            }
        }

        int bayAt(int crane, int m) {
            int place = m * MOST_CRANES + crane;
            return place >= 0 && place < bay.length ? bay[place] : NONE;
        }

        float swayAt(int crane, int m) {
            int place = m * MOST_CRANES + crane;
            return place >= 0 && place < sway.length ? sway[place] : 0f;
        }

        int deedAt(int crane, int m) {
            int place = m * MOST_CRANES + crane;
            return place >= 0 && place < deed.length ? deed[place] : NONE;
        }

        int deedsOf(int crane, int n, int what) {
            int many = 0;
            for (int m = 0; m < n; m++) {
                if (deedAt(crane, m) == what) {
                    many++;
                }
            }
            return many;
        }

        int idleIn(int n, int cranes) {
            int many = 0;
            for (int m = 0; m < n; m++) {
                boolean busy = false;
                for (int c = 0; c < cranes; c++) {
                    busy |= deedAt(c, m) == WORKS;
                }
                if (!busy) {
                    many++;
                }
            }
            return many;
        }
    }

    /** A plan that was looked for, with its LAST; kept until things change. */
    private static final class Choice {
        final Plan plan = new Plan();
        boolean known;
        int last;
        int task;
        /** The greatest LAST that would still be taken. */
        int limit;
        /** No LAST can be less. */
        int least;

        void open(int most) {
            known = true;
            last = NONE;
            task = NONE;
            limit = most;
            least = 0;
            plan.clear();
        }

        void take(Plan found, int foundLast) {
            plan.copyOf(found);
            last = foundLast;
            // of several as good the first one stays
            limit = foundLast - 1;
        }

        /** Its LAST, the crane of a task, or from 10 on the task's place. */
        int tell(int what) {
            if (last == NONE || what == NONE) {
                return last;
            }
            return what < 10 ? plan.holder(what) : plan.spot(what - 10);
        }
    }

    /** Looks for the plans with the least LAST. */
    private static final class Search {
        private final Yard from = new Yard();
        private final Yard apart = new Yard();
        private final Plan trial = new Plan();
        private final Plan rest = new Plan();
        private final Choice rough = new Choice();
        private final int[] order = new int[MOST_TASKS];
        private int many;

        void findBest(Yard yard, int lost, Choice goal) {
            if (goal.known) {
                return;
            }
            // zones are plans, too: none worse than theirs needs a look
            begin(yard, lost, rough);
            cut(this, rough, 0, 0, 0);
            goal.open(rough.last == NONE ? FAR : rough.last);
            goal.least = from.boundOf(0);
            trial.clear();
            extend(this, goal, 0, from.leftBits(), from.bay[0], 0, 0);
        }

        /** Lists ahead of the crane's are whole, its own goes on: it ends, or has one task more. */
        private static void extend(Search s, Choice goal, int crane, int left, int at, int busy, int depth) {
            Yard yard = s.from;
            if (Math.max(busy, goal.least) > goal.limit || depth > MOST_CRANES + MOST_TASKS) {
                return;
            }
            if (crane >= yard.cranes) {
                if (left == 0) {
                    s.weigh(goal);
                }
                return;
            }
            int beside = crane + 1;
            extend(s, goal, beside, left, beside < MOST_CRANES ? yard.bay[beside] : 0, 0, depth + 1);
            if (yard.isBroken(crane)) {
                return;
            }
            for (int t = 0; t < yard.tasks; t++) {
                if ((left >> t & 1) != 0 && yard.canLift(crane, t) && yard.canReach(crane, t)) {
                    // it goes there, then must be calm again, for a minute at least, ahead of the work
                    int way = Math.abs(yard.site[t] - at);
                    int spent = busy + way + (way > 0 ? 1 : 0) + yard.takes[t] - yard.did[t];
                    s.trial.add(crane, t);
                    extend(s, goal, crane, left & ~(1 << t), yard.site[t], spent, depth + 1);
                    s.trial.dropLast(crane);
                }
            }
        }

        void findZones(Yard yard, Choice goal) {
            if (!goal.known) {
                begin(yard, 0, goal);
                cut(this, goal, 0, 0, 0);
            }
        }

        /** All is so as in the yard, but for the cranes that are lost; no plan is found yet. */
        private void begin(Yard yard, int lost, Choice goal) {
            from.copyOf(yard);
            from.broken |= lost;
            goal.open(FAR);
            trial.clear();
            sortByBay();
        }

        /** Runs of the cranes ahead are cut, up to a place in the order: all runs of this crane in turn. */
        private static void cut(Search s, Choice goal, int crane, int start, int depth) {
            if (depth > MOST_CRANES) {
                return;
            }
            if (crane >= s.from.cranes) {
                if (start >= s.many) {
                    s.weigh(goal);
                }
                return;
            }
            cut(s, goal, crane + 1, start, depth + 1);
            if (s.from.isBroken(crane)) {
                return;
            }
            int run = 0;
            for (int k = start; k < s.many && s.from.canLift(crane, s.order[k]); k++) {
                s.trial.add(crane, s.order[k]);
                run++;
                cut(s, goal, crane + 1, k + 1, depth + 1);
            }
            for (int k = 0; k < run; k++) {
                s.trial.dropLast(crane);
            }
        }

        private void sortByBay() {
            many = 0;
            for (int t = 0; t < from.tasks; t++) {
                if (!from.isDone(t) && many < order.length) {
                    int k = many;
                    for (; k > 0 && from.site[order[k - 1]] > from.site[t]; k--) {
                        order[k] = order[k - 1];
                    }
                    order[k] = t;
                    many++;
                }
            }
        }

        void findBetter(Yard yard, int last, Choice goal) {
            if (goal.known) {
                return;
            }
            from.copyOf(yard);
            goal.open(last == NONE ? FAR : last - 1);
            int told = from.plan.bits() & ~from.done;
            for (int t = 0; t < from.tasks; t++) {
                if ((told >> t & 1) != 0) {
                    tryPlaces(goal, t);
                }
            }
        }

        private void tryPlaces(Choice goal, int task) {
            rest.copyOf(from.plan);
            rest.remove(task);
            for (int c = 0; c < from.cranes; c++) {
                if (!from.isBroken(c) && from.canLift(c, task)) {
                    for (int place = 0; place <= rest.size[c]; place++) {
                        trial.copyOf(rest);
                        trial.insert(c, place, task);
                        if (weigh(goal)) {
                            goal.task = task;
                        }
                    }
                }
            }
        }

        /** Goes through the trial: true, and taken, if its LAST is within what would be taken. */
        private boolean weigh(Choice goal) {
            apart.copyOf(from);
            apart.plan.copyOf(trial);
            int last = apart.lastWithin(goal.limit);
            if (last == NONE) {
                return false;
            }
            goal.take(trial, last);
            return true;
        }

        void findEasy(Yard yard, Choice goal) {
            if (goal.known) {
                return;
            }
            goal.open(FAR);
            apart.copyOf(yard);
            apart.plan.clear();
            for (int m = 0; m <= FAR; m++) {
                if (apart.leftBits() == 0) {
                    goal.take(apart.plan, m);
                    return;
                }
                for (int c = 0; c < apart.cranes; c++) {
                    give(c);
                }
                // where nothing can change any more nothing is left to be given, either
                if (!apart.pass()) {
                    return;
                }
            }
        }

        /** A crane without a next task gets the nearest one that can be done now. */
        private void give(int crane) {
            if (apart.isBroken(crane) || apart.nextOf(crane) != NONE) {
                return;
            }
            int free = apart.leftBits() & ~apart.plan.bits();
            int found = NONE;
            int least = 0;
            for (int t = 0; t < apart.tasks; t++) {
                boolean can = (apart.after[t] & ~apart.done) == 0 && apart.canLift(crane, t);
                int way = Math.abs(apart.site[t] - apart.bay[crane]);
                if ((free >> t & 1) != 0 && can && (found == NONE || way < least)) {
                    found = t;
                    least = way;
                }
            }
            if (found != NONE) {
                apart.plan.add(crane, found);
            }
        }
    }

    /** The latest acts: how all was ahead of each. */
    private static final class Acts {
        private final Yard[] ahead = new Yard[MOST_ACTS];
        private int first;
        int many;

        Acts() {
            for (int k = 0; k < ahead.length; k++) {
                ahead[k] = new Yard();
            }
        }

        void forget() {
            first = 0;
            many = 0;
        }

        void keep(Yard yard) {
            if (many == MOST_ACTS) {
                first = (first + 1) % MOST_ACTS;
                many--;
            }
            ahead[(first + many) % MOST_ACTS].copyOf(yard);
            many++;
        }

        boolean canUndo() {
            return many > 0;
        }

        void takeBack(Yard yard) {
            if (many > 0) {
                many--;
                yard.copyOf(ahead[(first + many) % MOST_ACTS]);
            }
        }
    }
}
