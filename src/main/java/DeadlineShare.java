/**
 * A processor shared fairly among tasks of weights: the eligible one whose
 * virtual deadline comes first is served, tick by tick. README.md says how to
 * use it; the document's numbered promises say what each call answers.
 */
public final class DeadlineShare {
    /** There is none. */
    public static final int NONE = -1;
    /** Told where any long may be an answer: there is none. */
    public static final long NOTHING = Long.MIN_VALUE;

    /** The least number that each of 1 .. 24 divides, so that no share is ever cut. */
    private static final long UNIT = 5354228880L;
    private static final int MOST_TASKS = 12;
    private static final int MOST_WEIGHT = 8;
    private static final int MOST_SLICE = 20;
    private static final int MOST_TOGETHER = 24;
    private static final int LAST_TIME = 9999;
    private static final int MOST_TICKS = 60;
    private static final int FAR_TICKS = 500;
    private static final int MOST_WISH = 99;
    private static final int MOST_QUOTA = 50;
    private static final int MOST_PERIOD = 60;
    private static final int MOST_IMAGES = 2;
    private static final int MOST_UNDONE = 10;

    private static final int OFF = 0;
    private static final int ON = 1;
    private static final int NAPPING = 2;
    private static final int THROTTLED = 3;

    private static final int BAD_NUMBER = -1;
    private static final int NO_TASK = -2;
    private static final int NOT_NOW = -4;
    private static final int NO_ROOM = -5;
    private static final int UNREADABLE = -6;

    private static final int DID_TASK = 0;
    private static final int DID_JOIN = 1;
    private static final int DID_LEAVE = 2;
    private static final int DID_WEIGH = 3;
    private static final int DID_SLICE = 4;
    private static final int DID_SCRIPT = 5;
    private static final int DID_TICKS = 6;
    private static final int DID_WISH = 7;
    private static final int DID_YIELD = 8;
    private static final int DID_QUOTA = 9;

    private final Terms terms;
    private final Tape tape;
    private final Reader reader;
    private final State now;
    private final State paper;
    private final Chooser asTold;
    private final Chooser onPaper;
    private final State[] images;
    private final boolean[] imageKept;
    private final History history;
    private final Refusals refusals;
    private int faultPlace;

    public DeadlineShare() {
        terms = new Terms();
        tape = new Tape();
        reader = new Reader();
        now = new State(terms);
        paper = new State(terms);
        asTold = new Chooser(terms);
        onPaper = new Chooser(terms);
        images = new State[MOST_IMAGES];
        for (int k = 0; k < MOST_IMAGES; k++) {
            images[k] = new State(terms);
        }
        imageKept = new boolean[MOST_IMAGES];
        history = new History(terms);
        refusals = new Refusals();
        faultPlace = NONE;
    }

    // ------------------------------------------------------------ terms, tape

    public int terms(int what, int value) {
        if (!terms.allows(what, value)) {
            return refusals.add(BAD_NUMBER);
        }
        int was = terms.get(what);
        terms.set(what, value);
        return refusals.none(was);
    }

    public int feed(int a, int b, int c, int d, int e) {
        if (!tape.hasRoomForFive()) {
            return NONE;
        }
        tape.addFour(a);
        tape.addFour(b);
        tape.addFour(c);
        tape.addFour(d);
        tape.addFour(e);
        return tape.length;
    }

    public int end(int n) {
        if (n < 0 || n > tape.length) {
            return NONE;
        }
        tape.length = n;
        return n;
    }

    public int tape(int i) {
        return tape.byteAt(i);
    }

    // ------------------------------------------------------------ acts

    public int task(int weight, int slice) {
        if (!isWeight(weight) || !isSlice(slice)) {
            return refusals.add(BAD_NUMBER);
        }
        if (now.count >= MOST_TASKS) {
            return refusals.add(NO_ROOM);
        }
        history.keep(now, DID_TASK);
        return refusals.none(now.addTask(weight, slice));
    }

    public int join(int task) {
        if (!now.has(task)) {
            return refusals.add(NO_TASK);
        }
        Task t = now.tasks[task];
        if (t.state != OFF || t.isSpent()) {
            return refusals.add(NOT_NOW);
        }
        if (!now.hasRoomFor(t.weight)) {
            return refusals.add(NO_ROOM);
        }
        history.keep(now, DID_JOIN);
        now.enter(t);
        return refusals.none(now.weightOfAll());
    }

    public int leave(int task) {
        if (!now.has(task)) {
            return refusals.add(NO_TASK);
        }
        Task t = now.tasks[task];
        if (t.state == OFF) {
            return refusals.add(NOT_NOW);
        }
        history.keep(now, DID_LEAVE);
        if (t.isOn()) {
            now.depart(t, OFF);
        }
        t.state = OFF;
        t.script.drop();
        return refusals.none(now.weightOfAll());
    }

    public int weigh(int task, int weight) {
        if (!isWeight(weight)) {
            return refusals.add(BAD_NUMBER);
        }
        if (!now.has(task)) {
            return refusals.add(NO_TASK);
        }
        Task t = now.tasks[task];
        int was = t.weight;
        if (was == weight) {
            return refusals.add(NOT_NOW);
        }
        if (!now.canWeigh(t, weight)) {
            return refusals.add(NO_ROOM);
        }
        history.keep(now, DID_WEIGH);
        now.weighAnew(t, weight);
        return refusals.none(was);
    }

    public int slice(int task, int slice) {
        if (!isSlice(slice)) {
            return refusals.add(BAD_NUMBER);
        }
        if (!now.has(task)) {
            return refusals.add(NO_TASK);
        }
        Task t = now.tasks[task];
        int was = t.slice;
        if (was == slice) {
            return refusals.add(NOT_NOW);
        }
        history.keep(now, DID_SLICE);
        t.takeSlice(slice);
        return refusals.none(was);
    }

    public int wish(int task, int n) {
        if (n < 1 || n > MOST_WISH) {
            return refusals.add(BAD_NUMBER);
        }
        if (!now.has(task)) {
            return refusals.add(NO_TASK);
        }
        history.keep(now, DID_WISH);
        Task t = now.tasks[task];
        t.takeSlice(now.sliceToBeServedIn(t, n));
        return refusals.none(t.slice);
    }

    public int yields(int task) {
        if (!now.has(task)) {
            return refusals.add(NO_TASK);
        }
        Task t = now.tasks[task];
        if (!t.isOn()) {
            return refusals.add(NOT_NOW);
        }
        history.keep(now, DID_YIELD);
        int was = t.left;
        now.giveUpRequest(t);
        return refusals.none(was);
    }

    public int quota(int task, int n, int period) {
        if (n < 0 || n > MOST_QUOTA || (n > 0 && (period <= n || period > MOST_PERIOD))) {
            return refusals.add(BAD_NUMBER);
        }
        if (!now.has(task)) {
            return refusals.add(NO_TASK);
        }
        history.keep(now, DID_QUOTA);
        Task t = now.tasks[task];
        int was = t.budget;
        t.takeQuota(n, period);
        return refusals.none(was);
    }

    public int script(int task) {
        if (!now.has(task)) {
            return refusals.add(NO_TASK);
        }
        Task t = now.tasks[task];
        boolean off = t.state == OFF;
        if ((!off && !t.isOn()) || (off && t.isSpent())) {
            return refusals.add(NOT_NOW);
        }
        if (off && !now.hasRoomFor(t.weight)) {
            return refusals.add(NO_ROOM);
        }
        faultPlace = reader.read(tape);
        tape.length = 0;
        if (faultPlace != NONE) {
            return refusals.add(UNREADABLE);
        }
        history.keep(now, DID_SCRIPT);
        now.startScript(t, reader.script);
        return refusals.none(reader.script.size);
    }

    public int listing(int task) {
        if (!now.has(task)) {
            return refusals.add(NO_TASK);
        }
        Script script = now.tasks[task].script;
        if (!script.isThere()) {
            return refusals.add(NOT_NOW);
        }
        tape.length = 0;
        script.writeTo(tape);
        return refusals.none(tape.length);
    }

    public int fault() {
        return faultPlace;
    }

    public int ticks(int n) {
        if (n < 1 || n > MOST_TICKS) {
            return refusals.add(BAD_NUMBER);
        }
        if (now.time + n > LAST_TIME) {
            return refusals.add(NOT_NOW);
        }
        history.keep(now, DID_TICKS);
        int busy = 0;
        for (int i = 0; i < n; i++) {
            if (now.tick(asTold) != NONE) {
                busy++;
            }
        }
        return refusals.none(busy);
    }

    public int undo() {
        if (history.size == 0) {
            return refusals.add(NOT_NOW);
        }
        return refusals.none(history.takeBack(now));
    }

    public int image(int k) {
        if (!isImage(k)) {
            return refusals.add(BAD_NUMBER);
        }
        images[k].copy(now);
        imageKept[k] = true;
        return refusals.none(now.time);
    }

    public int back(int k) {
        if (!isImage(k)) {
            return refusals.add(BAD_NUMBER);
        }
        if (!imageKept[k]) {
            return refusals.add(NOT_NOW);
        }
        now.copy(images[k]);
        history.size = 0;
        return refusals.none(now.time);
    }

    // ------------------------------------------------------------ what stands

    public int of(int task, int what) {
        return now.has(task) ? now.tasks[task].tell(what) : NONE;
    }

    public long exact(int task, int what) {
        if (!now.has(task)) {
            return NOTHING;
        }
        Task t = now.tasks[task];
        if (!t.isOn()) {
            return what == 3 ? t.lag.asLong() : NOTHING;
        }
        switch (what) {
            case 0: return t.v;
            case 1: return t.deadline();
            case 2: return now.lagTimesW(t);
            default: return NOTHING;
        }
    }

    public long time(int what) {
        switch (what) {
            case 0: return now.wholeV();
            case 1: return now.restOfV();
            case 2: return now.weightOfAll();
            case 3: return now.time;
            default: return NOTHING;
        }
    }

    public int eligible() {
        return now.eligibleBits();
    }

    public int earliest(int k) {
        return now.eligibleAt(k);
    }

    public int rank(int task) {
        return now.has(task) && now.tasks[task].isOn() ? now.howManyBefore(now.tasks[task]) : NONE;
    }

    public int ran(int time) {
        return now.logHolds(time) ? now.log.runner(time) : NONE;
    }

    public int service(int task, int a, int b) {
        if (!now.has(task) || !now.isWindow(a, b)) {
            return NONE;
        }
        return a == b ? 0 : now.log.serviceIn(task, a, b);
    }

    public long share(int task, int a, int b) {
        if (!now.has(task) || !now.isWindow(a, b)) {
            return NOTHING;
        }
        return a == b ? 0L : now.log.shareIn(task, a, b);
    }

    public long worst(int task, int what) {
        if (!now.has(task) || what < 0 || what > 1) {
            return NOTHING;
        }
        return now.log.edge(task, now.firstInLog(), now.time, what == 0);
    }

    // ------------------------------------------------------------ on paper

    public int ahead(int n) {
        if (!canTick(n)) {
            return NONE;
        }
        paper.copy(now);
        int runner = NONE;
        for (int i = 0; i < n; i++) {
            runner = paper.tick(asTold);
        }
        return runner;
    }

    public int finish(int task) {
        if (!now.has(task) || !now.tasks[task].script.isThere()) {
            return NONE;
        }
        paper.copy(now);
        Script script = paper.tasks[task].script;
        for (int n = 1; n <= FAR_TICKS && paper.time < LAST_TIME; n++) {
            paper.tick(asTold);
            if (!script.isThere()) {
                return n;
            }
        }
        return NONE;
    }

    public int due(int task) {
        if (!now.has(task)) {
            return NONE;
        }
        paper.copy(now);
        Task t = paper.tasks[task];
        int before = t.requests;
        for (int n = 1; n <= FAR_TICKS && paper.time < LAST_TIME; n++) {
            paper.tick(asTold);
            if (t.requests > before) {
                return n;
            }
        }
        return NONE;
    }

    public int least(int task, int n, int m) {
        if (!now.has(task) || !canTick(m) || n < 0 || n > m) {
            return NONE;
        }
        for (int weight = 1; weight <= MOST_WEIGHT; weight++) {
            if (now.canWeigh(now.tasks[task], weight) && ticksWithWeight(task, weight, m) >= n) {
                return weight;
            }
        }
        return NONE;
    }

    public int would(int way, int n, int what) {
        if (way < 0 || way > 4 || !canTick(n) || what < 0 || what > 3) {
            return Integer.MIN_VALUE;
        }
        paper.copy(now);
        onPaper.start(way);
        long lagEdge = 0L;
        int changes = 0;
        int idle = 0;
        for (int i = 0; i < n; i++) {
            int before = paper.last;
            int runner = paper.tick(onPaper);
            if (runner == NONE) {
                idle++;
            } else if (runner != before) {
                changes++;
            }
            lagEdge = paper.lagEdge(lagEdge, what == 0);
        }
        if (what == 2) {
            return changes;
        }
        return what == 3 ? idle : (int) lagEdge;
    }

    // ------------------------------------------------------------ counts

    public int count(int what) {
        switch (what) {
            case 0: return now.count;
            case 1: return now.howManyAre(ON);
            case 2: return now.howManyAre(NAPPING);
            case 3: return now.howManyHaveScripts();
            case 4: return now.last;
            case 5: return now.time - now.firstInLog();
            case 6: return history.size;
            case 7: return tape.length;
            case 8: return refusals.countOf(BAD_NUMBER);
            case 9: return refusals.countOf(NO_TASK);
            case 10: return refusals.countOf(NOT_NOW);
            case 11: return refusals.countOf(NO_ROOM);
            case 12: return refusals.countOf(UNREADABLE);
            case 13: return terms.mode;
            case 14: return terms.carry;
            case 15: return terms.seed;
            case 16: return now.howManyAre(THROTTLED);
            default: return NONE;
        }
    }

    public int status() {
        return refusals.latest;
    }

    // ------------------------------------------------------------ helpers

    private static boolean isWeight(int weight) {
        return weight >= 1 && weight <= MOST_WEIGHT;
    }

    private static boolean isSlice(int slice) {
        return slice >= 1 && slice <= MOST_SLICE;
    }

    private static boolean isImage(int k) {
        return k >= 0 && k < MOST_IMAGES;
    }

    private boolean canTick(int n) {
        return n >= 1 && n <= MOST_TICKS && now.time + n <= LAST_TIME;
    }

    /** On paper: in how many of the next m TICKS a TASK runs, if it has this WEIGHT from now on. */
    private int ticksWithWeight(int task, int weight, int m) {
        paper.copy(now);
        Task t = paper.tasks[task];
        if (t.weight != weight) {
            paper.weighAnew(t, weight);
        }
        int runs = 0;
        for (int i = 0; i < m; i++) {
            if (paper.tick(asTold) == task) {
                runs++;
            }
        }
        return runs;
    }

    private static long unitBy(int n) {
        return n > 0 ? UNIT / n : 0L;
    }

    // ------------------------------------------------------------ classes

    /** What the user sets once for all; no undo and no image touches it. */
    private static final class Terms {
        int mode;
        int carry = 1;
        int seed = 1;

        boolean allows(int what, int value) {
            switch (what) {
                case 0: return value >= 0 && value <= 1;
                case 1: return value >= 0 && value <= 3;
                case 2: return value >= 0 && value <= 1000000;
                default: return false;
            }
        }

        int get(int what) {
            switch (what) {
                case 0: return mode;
                case 1: return carry;
                default: return seed;
            }
        }

        void set(int what, int value) {
            switch (what) {
                case 0: mode = value; break;
                case 1: carry = value; break;
                default: seed = value; break;
            }
        }
    }

    /** How many calls were refused, by what, and how the latest one ended. */
    private static final class Refusals {
        private final int[] counts = new int[5];
        int latest;

        int add(int by) {
            latest = by;
            counts[placeOf(by)]++;
            return by;
        }

        int none(int answer) {
            latest = 0;
            return answer;
        }

        int countOf(int by) {
            return counts[placeOf(by)];
        }

        private static int placeOf(int by) {
            switch (by) {
                case BAD_NUMBER: return 0;
                case NO_TASK: return 1;
                case NOT_NOW: return 2;
                case NO_ROOM: return 3;
                default: return 4;
            }
        }
    }

    /** The bytes that were fed: the text of a script, in or out. */
    private static final class Tape {
        private static final int MOST_BYTES = 200;
        private final byte[] bytes = new byte[MOST_BYTES];
        int length;

        boolean hasRoomForFive() {
            return length + 20 <= MOST_BYTES;
        }

        void addFour(int four) {
            add(four >>> 24);
            add(four >>> 16);
            add(four >>> 8);
            add(four);
        }

        void add(int one) {
            if (length >= 0 && length < MOST_BYTES) {
                bytes[length] = (byte) one;
                length++;
            }
        }

        void addWord(String word) {
            for (int i = 0; i < word.length(); i++) {
                add(word.charAt(i));
            }
        }

        void addNumber(int number) {
            if (number >= 10) {
                add('0' + number / 10 % 10);
            }
            add('0' + number % 10);
        }

        /** 0 .. 255, or NONE outside the text. */
        int byteAt(int i) {
            return i >= 0 && i < length && i < MOST_BYTES ? bytes[i] & 255 : NONE;
        }
    }

    /** The STEPS of a TASK, and the one that holds it. Without STEPS there is no SCRIPT. */
    private static final class Script {
        static final int MOST_STEPS = 8;
        static final int RUN = 0;
        static final int NAP = 1;
        static final int WEIGH = 2;
        static final int SLICE = 3;
        static final int AGAIN = 4;
        static final int KINDS = 5;
        private static final int[] MOST_OF_KIND = {99, 99, 8, 20, 9};
        private static final int KIND_SHIFT = 8;

        private final int[] steps = new int[MOST_STEPS];
        int size;
        int at;
        int toRun;
        private int timesBack;

        static String wordOf(int kind) {
            switch (kind) {
                case RUN: return "run";
                case NAP: return "nap";
                case WEIGH: return "weigh";
                case SLICE: return "slice";
                default: return "again";
            }
        }

        static int mostOf(int kind) {
            return kind >= 0 && kind < KINDS ? MOST_OF_KIND[kind] : 0;
        }

        boolean isThere() {
            return size > 0;
        }

        void drop() {
            size = 0;
            at = 0;
            toRun = 0;
            timesBack = 0;
        }

        void addStep(int kind, int number) {
            if (size < MOST_STEPS) {
                steps[size] = (kind << KIND_SHIFT) | number;
                size++;
            }
        }

        void copy(Script other) {
            System.arraycopy(other.steps, 0, steps, 0, MOST_STEPS);
            size = other.size;
            at = other.at;
            toRun = other.toRun;
            timesBack = other.timesBack;
        }

        int kindOf(int step) {
            return step >= 0 && step < size ? steps[step] >> KIND_SHIFT : NONE;
        }

        int numberOf(int step) {
            return step >= 0 && step < size ? steps[step] & 255 : 0;
        }

        boolean isEnded() {
            return at >= size;
        }

        boolean holdsByRun() {
            return kindOf(at) == RUN;
        }

        /** One TICK of a run is over: whether the STEP holds no longer. */
        boolean isRunOver() {
            toRun--;
            if (toRun > 0) {
                return false;
            }
            at++;
            return true;
        }

        /** At an again: back to the STEP behind the again ahead of it, or onwards. */
        void turnBack() {
            if (timesBack >= numberOf(at)) {
                timesBack = 0;
                at++;
                return;
            }
            timesBack++;
            int first = at;
            while (first > 0 && kindOf(first - 1) != AGAIN) {
                first--;
            }
            at = first;
        }

        void writeTo(Tape tape) {
            for (int step = 0; step < size; step++) {
                if (step > 0) {
                    tape.add(',');
                }
                tape.addWord(wordOf(kindOf(step)));
                tape.add(' ');
                tape.addNumber(numberOf(step));
            }
        }
    }

    /** Reads a SCRIPT from the TAPE; the STEPS are good only if there was no FAULT. */
    private static final class Reader {
        private static final int TOO_GREAT = 1000;
        final Script script = new Script();
        private int place;

        /** The FAULT's place, or NONE. */
        int read(Tape text) {
            script.drop();
            place = 0;
            for (int step = 0; step <= Script.MOST_STEPS; step++) {
                if (!readStep(text, step == Script.MOST_STEPS)) {
                    return place;
                }
                skipBlanks(text);
                if (place >= text.length) {
                    return NONE;
                }
                if (text.byteAt(place) != ',') {
                    return place;
                }
                place++;
            }
            return place;
        }

        /** Whether a STEP was read; if not, place is where it can't go on. */
        private boolean readStep(Tape text, boolean oneTooMany) {
            skipBlanks(text);
            int wordEnd = endOfRow(text, 'a', 'z');
            int kind = oneTooMany ? NONE : kindOfWord(text, wordEnd);
            if (kind == NONE) {
                return false;
            }
            place = wordEnd;
            skipBlanks(text);
            int numberEnd = endOfRow(text, '0', '9');
            int number = numberTo(text, numberEnd);
            if (number < 1 || number > Script.mostOf(kind)) {
                return false;
            }
            script.addStep(kind, number);
            place = numberEnd;
            return true;
        }

        private void skipBlanks(Tape text) {
            while (place < text.length && text.byteAt(place) == ' ') {
                place++;
            }
        }

        private int endOfRow(Tape text, int lowest, int highest) {
            int end = place;
            while (end < text.length && text.byteAt(end) >= lowest && text.byteAt(end) <= highest) {
                end++;
            }
            return end;
        }

        private int kindOfWord(Tape text, int wordEnd) {
            for (int kind = 0; kind < Script.KINDS; kind++) {
                if (isWord(text, wordEnd, Script.wordOf(kind))) {
                    return kind;
                }
            }
            return NONE;
        }

        private boolean isWord(Tape text, int wordEnd, String word) {
            if (wordEnd - place != word.length()) {
                return false;
            }
            for (int i = 0; i < word.length(); i++) {
                if (text.byteAt(place + i) != word.charAt(i)) {
                    return false;
                }
            }
            return true;
        }

        private int numberTo(Tape text, int numberEnd) {
            int number = 0;
            for (int i = place; i < numberEnd; i++) {
                // a row of 200 digits must not wrap round into a number that can be
                number = Math.min(TOO_GREAT, number * 10 + text.byteAt(i) - '0');
            }
            return number;
        }
    }

    /**
     * A whole number that a long may be too short for: high times 2 to the 32nd, and low, which is
     * below that. All v are longs, but what they make together is not always one.
     */
    private static final class Wide {
        private static final int HALF = 32;
        private static final long LOW = (1L << HALF) - 1;
        private long high;
        private long low;

        void set(long number) {
            high = number >> HALF;
            low = number & LOW;
        }

        void copy(Wide other) {
            high = other.high;
            low = other.low;
        }

        void addTimes(long times, long number) {
            long sum = low + times * (number & LOW);
            high += times * (number >> HALF) + (sum >> HALF);
            low = sum & LOW;
        }

        void addTimesWide(long times, Wide other) {
            long sum = low + times * other.low;
            high += times * other.high + (sum >> HALF);
            low = sum & LOW;
        }

        void multiply(long times) {
            long product = times * low;
            high = times * high + (product >> HALF);
            low = product & LOW;
        }

        /** Cut downwards; by is short of 2 to the 31st, so that what is over fits above low. */
        void divide(long by) {
            if (by > 0) {
                low = (Math.floorMod(high, by) << HALF | low) / by;
                high = Math.floorDiv(high, by);
            }
        }

        long modulo(long by) {
            return by > 0 ? (Math.floorMod(high, by) << HALF | low) % by : 0L;
        }

        boolean isAbove(long number) {
            long itsHigh = number >> HALF;
            return high > itsHigh || (high == itsHigh && low > (number & LOW));
        }

        void keepWithin(long most) {
            if (isAbove(most)) {
                set(most);
            } else if (!isAbove(-most)) {
                set(-most);
            }
        }

        /** The number, or its lower 64 bits if it is none that a long can be. */
        long asLong() {
            return high << HALF | low;
        }
    }

    /** One TASK: what it is, what it got, where its SCRIPT stands. */
    private static final class Task {
        private static final int MOST_WAIT = 999;
        final int number;
        final Script script = new Script();
        int weight;
        int slice;
        int state;
        long v;
        int left;
        /** The LAG with which it left last is lag by lagWeight. */
        final Wide lag = new Wide();
        int lagWeight;
        int served;
        int requests;
        int late;
        int wait;
        int longest;
        int napTill;
        int budget;
        int quota;
        int period;

        Task(int number) {
            this.number = number;
        }

        void startAnew(int newWeight, int newSlice) {
            script.drop();
            weight = newWeight;
            slice = newSlice;
            state = OFF;
            v = 0L;
            left = 0;
            lag.set(0L);
            lagWeight = 1;
            served = 0;
            requests = 0;
            late = 0;
            wait = 0;
            longest = 0;
            napTill = 0;
            takeQuota(0, 0);
        }

        void copy(Task other) {
            script.copy(other.script);
            weight = other.weight;
            slice = other.slice;
            state = other.state;
            v = other.v;
            left = other.left;
            lag.copy(other.lag);
            lagWeight = other.lagWeight;
            served = other.served;
            requests = other.requests;
            late = other.late;
            wait = other.wait;
            longest = other.longest;
            napTill = other.napTill;
            budget = other.budget;
            quota = other.quota;
            period = other.period;
        }

        boolean isOn() {
            return state == ON;
        }

        boolean isSpent() {
            return quota > 0 && budget == 0;
        }

        long deadline() {
            return v + left * unitBy(weight);
        }

        void takeSlice(int newSlice) {
            slice = newSlice;
            left = Math.min(left, newSlice);
        }

        void takeQuota(int n, int newPeriod) {
            quota = n;
            period = n > 0 ? newPeriod : 0;
            budget = n > 0 ? n : NONE;
        }

        void refillAt(int time) {
            if (quota > 0 && period > 0 && time % period == 0) {
                budget = quota;
            }
        }

        void waitOneMore() {
            wait = Math.min(MOST_WAIT, wait + 1);
            longest = Math.max(longest, wait);
        }

        /** What is CARRIED, times lagWeight. */
        void putCarried(int carry, Wide into) {
            into.copy(lag);
            if (carry == 0 || (carry == 3 && lag.isAbove(0L))) {
                into.set(0L);
            } else if (carry == 2) {
                into.keepWithin(slice * UNIT * lagWeight);
            }
        }

        /** By DEADLINES, of like ones by numbers. */
        boolean comesBefore(Task other) {
            long mine = deadline();
            long its = other.deadline();
            // v is a long, its DEADLINE may be beyond: it has come round then, and is the later one
            boolean beyond = mine < v;
            boolean itsBeyond = its < other.v;
            if (beyond != itsBeyond) {
                return itsBeyond;
            }
            return mine < its || (mine == its && number < other.number);
        }

        int tell(int what) {
            switch (what) {
                case 0: return weight;
                case 1: return slice;
                case 2: return state;
                case 3: return isOn() ? left : NONE;
                case 4: return served;
                case 5: return requests;
                case 6: return late;
                case 7: return isOn() ? wait : NONE;
                case 8: return longest;
                case 9: return state == NAPPING ? napTill : NONE;
                case 10: return script.isThere() ? script.at : NONE;
                case 11: return script.holdsByRun() ? script.toRun : NONE;
                case 12: return budget;
                case 13: return quota;
                case 14: return period;
                default: return NONE;
            }
        }
    }

    /** The last 128 TICKS, one long each: four bits of WEIGHT a TASK, then W, then who ran. */
    private static final class Log {
        static final int KEPT = 128;
        private static final int WEIGHT_BITS = 4;
        private static final int W_SHIFT = MOST_TASKS * WEIGHT_BITS;
        private static final int RUNNER_SHIFT = W_SHIFT + 5;
        private final long[] rows = new long[KEPT];

        void copy(Log other) {
            System.arraycopy(other.rows, 0, rows, 0, KEPT);
        }

        static long weightAsBits(int task, int weight) {
            return (long) weight << (task * WEIGHT_BITS);
        }

        void put(int time, int runner, int w, long weights) {
            rows[time & (KEPT - 1)] = weights | ((long) w << W_SHIFT) | ((runner + 1L) << RUNNER_SHIFT);
        }

        int runner(int time) {
            return (int) (rows[time & (KEPT - 1)] >> RUNNER_SHIFT) - 1;
        }

        private int weightThen(int time, int task) {
            return (int) (rows[time & (KEPT - 1)] >> (task * WEIGHT_BITS)) & 15;
        }

        private long shareThen(int time, int task) {
            int w = (int) (rows[time & (KEPT - 1)] >> W_SHIFT) & 31;
            return weightThen(time, task) * unitBy(w);
        }

        int serviceIn(int task, int a, int b) {
            int service = 0;
            for (int time = a; time < b; time++) {
                if (runner(time) == task) {
                    service++;
                }
            }
            return service;
        }

        long shareIn(int task, int a, int b) {
            long share = 0L;
            for (int time = a; time < b; time++) {
                share += shareThen(time, task);
            }
            return share;
        }

        /** The greatest (or least) gain of all windows in a .. b, in all TICKS of which the TASK was ON. */
        long edge(int task, int a, int b, boolean greatest) {
            boolean found = false;
            boolean open = false;
            long best = 0L;
            long endingHere = 0L;
            for (int time = a; time < b; time++) {
                if (weightThen(time, task) == 0) {
                    open = false;
                    continue;
                }
                long gain = (runner(time) == task ? UNIT : 0L) - shareThen(time, task);
                long signed = greatest ? gain : -gain;
                endingHere = open ? signed + Math.max(0L, endingHere) : signed;
                open = true;
                best = found ? Math.max(best, endingHere) : endingHere;
                found = true;
            }
            if (!found) {
                return NOTHING;
            }
            return greatest ? best : -best;
        }
    }

    /** One of the WAYS to choose who runs. */
    private static final class Chooser {
        private final Terms terms;
        private int way;
        private long drawn;

        Chooser(Terms terms) {
            this.terms = terms;
        }

        void start(int newWay) {
            way = newWay;
            drawn = terms.seed;
        }

        int pick(State p) {
            switch (way) {
                case 1: return p.leastV();
                case 2: return p.firstDeadline(false);
                case 3: return p.nextInTurn();
                case 4: return byDraw(p);
                default: return terms.mode == 1 && p.holder != NONE ? p.holder : p.firstDeadline(true);
            }
        }

        private int byDraw(State p) {
            int w = p.weightOfAll();
            if (w <= 0) {
                return NONE;
            }
            drawn = (1103L * drawn + 12345L) % 1000003L;
            return p.atWeight((int) (drawn % w));
        }
    }

    /** All that an undo, an image or a paper copies: the TASKS, the TIME and the LOG. */
    private static final class State {
        /** Far above the 81 turns that eight STEPS can take without being held. */
        private static final int MOST_TURNS = 1000;
        /** 5 by this is a hundredth: UNIT itself can't be divided by 100. */
        private static final long UNIT_BY_20 = UNIT / 20;
        private final Terms terms;
        final Task[] tasks = new Task[MOST_TASKS];
        final Log log = new Log();
        /** Only used within a call: V times W, and one LAG. */
        private final Wide sum = new Wide();
        private final Wide part = new Wide();
        int count;
        int time;
        private long rest;
        /** Who ran last, IDLE TICKS aside. */
        int last = NONE;
        /** Who ran in the TICK ahead and still has the same REQUEST. */
        int holder = NONE;

        State(Terms terms) {
            this.terms = terms;
            for (int i = 0; i < MOST_TASKS; i++) {
                tasks[i] = new Task(i);
            }
        }

        void copy(State other) {
            for (int i = 0; i < other.count; i++) {
                tasks[i].copy(other.tasks[i]);
            }
            log.copy(other.log);
            count = other.count;
            time = other.time;
            rest = other.rest;
            last = other.last;
            holder = other.holder;
        }

        boolean has(int task) {
            return task >= 0 && task < count;
        }

        int addTask(int weight, int slice) {
            if (count >= MOST_TASKS) {
                return NONE;
            }
            tasks[count].startAnew(weight, slice);
            count++;
            return count - 1;
        }

        // ---- sums

        int weightOfAll() {
            int w = 0;
            for (int i = 0; i < count; i++) {
                if (tasks[i].state == ON) {
                    w += tasks[i].weight;
                }
            }
            return w;
        }

        /** V is then sum by what this answers: W, or 1 if none is ON and V is REST. */
        private int sumUp() {
            int w = 0;
            sum.set(0L);
            for (int i = 0; i < count; i++) {
                if (tasks[i].state == ON) {
                    sum.addTimes(tasks[i].weight, tasks[i].v);
                    w += tasks[i].weight;
                }
            }
            if (w > 0) {
                return w;
            }
            sum.set(rest);
            return 1;
        }

        long wholeV() {
            int w = sumUp();
            sum.divide(w);
            return sum.asLong();
        }

        long restOfV() {
            int w = sumUp();
            return sum.modulo(w);
        }

        /** LAG times W: how far the others are above v, each times its WEIGHT, together, times its own. */
        private void putLag(Task t, Wide into) {
            into.set(0L);
            for (int i = 0; i < count; i++) {
                if (tasks[i].state == ON) {
                    into.addTimes(tasks[i].weight, tasks[i].v);
                    into.addTimes(-tasks[i].weight, t.v);
                }
            }
            into.multiply(t.weight);
        }

        long lagTimesW(Task t) {
            putLag(t, part);
            return part.asLong();
        }

        /** The greatest (or least) of sofar and all LAGS, in hundredths of UNIT. */
        long lagEdge(long sofar, boolean greatest) {
            int w = weightOfAll();
            long edge = sofar;
            for (int i = 0; i < count; i++) {
                if (tasks[i].isOn()) {
                    putLag(tasks[i], part);
                    part.multiply(5L);
                    part.divide(w);
                    part.divide(UNIT_BY_20);
                    edge = greatest ? Math.max(edge, part.asLong()) : Math.min(edge, part.asLong());
                }
            }
            return edge;
        }

        int howManyAre(int state) {
            int many = 0;
            for (int i = 0; i < count; i++) {
                if (tasks[i].state == state) {
                    many++;
                }
            }
            return many;
        }

        int howManyHaveScripts() {
            int many = 0;
            for (int i = 0; i < count; i++) {
                if (tasks[i].script.isThere()) {
                    many++;
                }
            }
            return many;
        }

        // ---- to join, to leave, to weigh, to yield

        boolean hasRoomFor(int weight) {
            return weightOfAll() + weight <= MOST_TOGETHER;
        }

        boolean canWeigh(Task t, int weight) {
            return !t.isOn() || weightOfAll() - t.weight + weight <= MOST_TOGETHER;
        }

        void enter(Task t) {
            int w = sumUp();
            int by = t.lagWeight * t.weight;
            t.putCarried(terms.carry, part);
            sum.multiply(by);
            sum.addTimesWide(-w, part);
            sum.divide(w * by);
            t.v = sum.asLong();
            t.left = t.slice;
            t.wait = 0;
            t.state = ON;
        }

        void depart(Task t, int newState) {
            putLag(t, t.lag);
            t.lagWeight = weightOfAll();
            if (t.lagWeight == t.weight) {
                rest = t.v;
            }
            t.state = newState;
            if (holder == t.number) {
                holder = NONE;
            }
        }

        void weighAnew(Task t, int weight) {
            if (t.isOn()) {
                // V less LAG by the new WEIGHT, all above W times the new WEIGHT
                int w = sumUp();
                sum.multiply(weight - t.weight);
                sum.addTimes(t.weight * w, t.v);
                sum.divide(w * weight);
                t.v = sum.asLong();
            }
            t.weight = weight;
        }

        void giveUpRequest(Task t) {
            t.v = t.deadline();
            t.left = t.slice;
            if (holder == t.number) {
                holder = NONE;
            }
        }

        int sliceToBeServedIn(Task t, int n) {
            int w = weightOfAll() + (t.isOn() ? 0 : t.weight);
            int slice = w > 0 ? n * t.weight / w : 1;
            return Math.max(1, Math.min(MOST_SLICE, slice));
        }

        // ---- who comes first

        int eligibleBits() {
            // v is whole: it is above V just if it is above V cut
            long highest = wholeV();
            int bits = 0;
            for (int i = 0; i < count; i++) {
                if (tasks[i].isOn() && tasks[i].v <= highest) {
                    bits |= 1 << i;
                }
            }
            return bits;
        }

        /** The k-th one by DEADLINES: the one with k eligible ones ahead of it. */
        int eligibleAt(int k) {
            int bits = eligibleBits();
            for (int i = 0; i < count; i++) {
                if ((bits >> i & 1) == 1 && howManyEarlier(tasks[i], bits) == k) {
                    return i;
                }
            }
            return NONE;
        }

        private int howManyEarlier(Task t, int bits) {
            int many = 0;
            for (int i = 0; i < count; i++) {
                if ((bits >> i & 1) == 1 && tasks[i].comesBefore(t)) {
                    many++;
                }
            }
            return many;
        }

        int howManyBefore(Task t) {
            int many = 0;
            for (int i = 0; i < count; i++) {
                Task other = tasks[i];
                if (other.isOn() && (other.v < t.v || (other.v == t.v && i < t.number))) {
                    many++;
                }
            }
            return many;
        }

        int firstDeadline(boolean onlyEligible) {
            long highest = onlyEligible ? wholeV() : Long.MAX_VALUE;
            int first = NONE;
            for (int i = 0; i < count; i++) {
                Task t = tasks[i];
                if (t.isOn() && t.v <= highest && (!has(first) || t.comesBefore(tasks[first]))) {
                    first = i;
                }
            }
            return first;
        }

        int leastV() {
            int first = NONE;
            long least = 0L;
            for (int i = 0; i < count; i++) {
                if (tasks[i].isOn() && (first == NONE || tasks[i].v < least)) {
                    first = i;
                    least = tasks[i].v;
                }
            }
            return first;
        }

        int nextInTurn() {
            for (int k = 1; k <= count; k++) {
                int i = (last + k) % count;
                if (has(i) && tasks[i].isOn()) {
                    return i;
                }
            }
            return NONE;
        }

        /** The TASK in whose part of W the place falls, each as wide as its WEIGHT. */
        int atWeight(int place) {
            int beyond = place;
            for (int i = 0; i < count; i++) {
                if (tasks[i].isOn()) {
                    beyond -= tasks[i].weight;
                    if (beyond < 0) {
                        return i;
                    }
                }
            }
            return NONE;
        }

        // ---- a tick

        /** One TICK: who ran, or NONE. */
        int tick(Chooser chooser) {
            for (int i = 0; i < count; i++) {
                tasks[i].refillAt(time);
            }
            for (int i = 0; i < count; i++) {
                wake(tasks[i]);
            }
            int runner = chooser.pick(this);
            log.put(time, runner, weightOfAll(), weightsAsBits());
            if (has(runner)) {
                serve(tasks[runner]);
                goOnAfterRun(tasks[runner]);
            } else {
                holder = NONE;
            }
            time++;
            return runner;
        }

        private void wake(Task t) {
            if (t.state == THROTTLED) {
                if (!t.isSpent() && hasRoomFor(t.weight)) {
                    enter(t);
                }
            } else if (t.state == NAPPING && t.napTill <= time) {
                if (t.isSpent() || !hasRoomFor(t.weight)) {
                    t.napTill = time + 1;
                    return;
                }
                enter(t);
                t.script.at++;
                goOn(t, time);
            }
        }

        private long weightsAsBits() {
            long bits = 0L;
            for (int i = 0; i < count; i++) {
                if (tasks[i].isOn()) {
                    bits |= Log.weightAsBits(i, tasks[i].weight);
                }
            }
            return bits;
        }

        private void serve(Task t) {
            t.v += unitBy(t.weight);
            t.served++;
            if (t.quota > 0) {
                t.budget--;
            }
            countWaits(t);
            last = t.number;
            holder = t.number;
            t.left--;
            if (t.left <= 0) {
                endRequest(t);
            }
        }

        private void countWaits(Task runner) {
            for (int i = 0; i < count; i++) {
                if (tasks[i].isOn() && i != runner.number) {
                    tasks[i].waitOneMore();
                }
            }
            runner.wait = 0;
        }

        private void endRequest(Task t) {
            t.requests++;
            putLag(t, part);
            if (part.isAbove(0L)) {
                t.late++;
            }
            t.left = t.slice;
            holder = NONE;
        }

        private void goOnAfterRun(Task t) {
            if (t.script.isThere() && t.script.isRunOver()) {
                goOn(t, time + 1);
            }
            if (t.isOn() && t.isSpent()) {
                depart(t, THROTTLED);
            }
        }

        // ---- scripts

        void startScript(Task t, Script script) {
            if (!t.isOn()) {
                enter(t);
            }
            t.script.copy(script);
            goOn(t, time);
        }

        /** STEP by STEP, till one holds the TASK, which is ON; a nap counts from the TIME told. */
        private void goOn(Task t, int from) {
            Script script = t.script;
            for (int turn = 0; turn < MOST_TURNS && !script.isEnded(); turn++) {
                int number = script.numberOf(script.at);
                switch (script.kindOf(script.at)) {
                    case Script.RUN:
                        script.toRun = number;
                        return;
                    case Script.NAP:
                        depart(t, NAPPING);
                        t.napTill = from + number;
                        return;
                    case Script.WEIGH:
                        if (canWeigh(t, number)) {
                            weighAnew(t, number);
                        }
                        script.at++;
                        break;
                    case Script.SLICE:
                        t.takeSlice(number);
                        script.at++;
                        break;
                    default:
                        script.turnBack();
                        break;
                }
            }
            depart(t, OFF);
            script.drop();
        }

        // ---- the log

        int firstInLog() {
            return Math.max(0, time - Log.KEPT);
        }

        boolean logHolds(int when) {
            return when >= firstInLog() && when < time;
        }

        /** An empty window is one wherever it stands. */
        boolean isWindow(int a, int b) {
            return a == b || (a < b && a >= firstInLog() && b <= time);
        }
    }

    /** What stood ahead of each of the latest acts, in a ring. */
    private static final class History {
        private final State[] before = new State[MOST_UNDONE];
        private final int[] acts = new int[MOST_UNDONE];
        private int next;
        int size;

        History(Terms terms) {
            for (int i = 0; i < MOST_UNDONE; i++) {
                before[i] = new State(terms);
            }
        }

        void keep(State now, int act) {
            if (next < 0 || next >= MOST_UNDONE) {
                return;
            }
            before[next].copy(now);
            acts[next] = act;
            next = (next + 1) % MOST_UNDONE;
            size = Math.min(MOST_UNDONE, size + 1);
        }

        int takeBack(State now) {
            int at = (next + MOST_UNDONE - 1) % MOST_UNDONE;
            if (size <= 0 || at < 0 || at >= MOST_UNDONE) {
                return NONE;
            }
            now.copy(before[at]);
            next = at;
            size--;
            return acts[at];
        }
    }
}
