import java.util.Random;

/** Runs of 512 calls, the same each time, on the class and on the Model: every answer must be alike. */
public final class RandomRuns {
    private static final int RUNS = Integer.getInteger("runs", 400);
    private static final int CALLS = 512;
    private static final String[] WORDS = {"run", "nap", "weigh", "slice", "again"};
    private static final int[] MOST = {99, 99, 8, 20, 9};
    /** Mostly join, leave, weigh, yield: so that lags grow and v falls below 0. */
    private static final int[] FEW_TICKS = {0, 17, 17, 17, 29, 29, 33, 33, 42, 42, 42, 42, 82, 86, 89, 60, 95};

    private final Random r;
    private final int profile;
    private final DeadlineShare x = new DeadlineShare();
    private final Model m = new Model();
    private final StringBuilder trace = new StringBuilder();
    private boolean wrong = false;

    private RandomRuns(long seed) {
        r = new Random(seed);
        profile = (int) (seed % 8);
    }

    public static void main(String[] args) {
        int bad = 0;
        long from = Long.getLong("from", 0L);
        for (long seed = from; seed < from + RUNS && bad < 3; seed++) {
            RandomRuns run = new RandomRuns(seed);
            if (!run.play()) {
                bad++;
                System.out.println("run " + seed + ":\n" + run.trace);
            }
        }
        System.out.println(bad == 0 ? RUNS + " random runs are as the model says" : bad + " runs are wrong");
        if (bad != 0) System.exit(1);
    }

    private boolean play() {
        int first = profile >= 6 ? grow() : 0;
        for (int i = first; i < CALLS && !wrong; i++) {
            call(i);
            if (i % 16 == 0) lookAtAll();
        }
        return !wrong;
    }

    private void due(String call, long got, long want) {
        if (wrong) return;
        trace.append(call).append(" -> ").append(got).append('\n');
        if (got != want) {
            trace.append("  due is ").append(want).append('\n');
            wrong = true;
        }
    }

    private void see(String call, long got, long want) {
        if (got != want) due(call, got, want);
    }

    private int wild() {
        int[] edges = {0, -1, 1, 2, 12, 13, 24, 60, 61, 127, 128, 200, 9999, 10000, Integer.MIN_VALUE, Integer.MAX_VALUE};
        return r.nextInt(4) == 0 ? r.nextInt() : edges[r.nextInt(edges.length)];
    }

    /** Now and then a number that can't be. */
    private int in(int low, int high) {
        int k = r.nextInt(60);
        if (k == 0) return wild();
        if (k == 1) return low - 1;
        if (k == 2) return high + 1;
        return low + r.nextInt(Math.max(1, high - low + 1));
    }

    private int someTask() { return in(0, Math.max(0, m.count(0) - 1)); }

    /** One that has a SCRIPT, where there is one. */
    private int scripted() {
        int from = r.nextInt(12);
        for (int i = 0; i < 12; i++) if (m.of((from + i) % 12, 10) >= 0) return (from + i) % 12;
        return someTask();
    }

    private int someTime() {
        int t = (int) m.time(3);
        return r.nextInt(8) == 0 ? in(-2, t + 2) : in(Math.max(0, t - 129), t + 1);
    }

    private void call(int i) {
        int k = r.nextInt(100);
        if (i < 12 && k < 80) k = r.nextInt(3) == 0 ? 20 : 12;
        if ((profile == 5 || profile == 6) && i >= 12) k = FEW_TICKS[k % FEW_TICKS.length];
        if (k < 12) paper();
        else if (k < 17) newTask();
        else if (k < 29) join();
        else if (k < 33) leave();
        else if (k < 38) weigh();
        else if (k < 42) sliceOrWish();
        else if (k < 45) yields();
        else if (k < 49) quota();
        else if (k < 60) script();
        else if (k < 82) ticks();
        else if (k < 86) undo();
        else if (k < 89) imageOrBack();
        else if (k < 91) terms();
        else if (k < 93) listing();
        else look();
    }

    /** Three that drive each other apart, each round about twice as far: up to where a long ends, and beyond. */
    private int grow() {
        int a = r.nextInt(3), b = (a + 1 + r.nextInt(2)) % 3, c = 3 - a - b, yields = 1 + r.nextInt(10), rounds = 16 + r.nextInt(12);
        for (int i = 0; i < 3; i++) due("task(1, 20)", x.task(1, 20), m.task(1, 20));
        for (int i = 0; i < 3; i++) due("join(" + i + ")", x.join(i), m.join(i));
        for (int i = 0; i < yields; i++) due("yields(" + a + ")", x.yields(a), m.yields(a));
        for (int i = 0; i < rounds; i++) {
            driveApart(a, b, c);
            driveApart(a, c, b);
            lookAtAll();
        }
        return 6 + yields + 12 * rounds;
    }

    private void driveApart(int a, int b, int c) {
        weigh(c, 8);
        weigh(a, 1);
        due("leave(" + b + ")", x.leave(b), m.leave(b));
        weigh(c, 1);
        weigh(a, 8);
        due("join(" + b + ")", x.join(b), m.join(b));
    }

    private void newTask() { int a = in(1, profile == 1 ? 8 : 3), b = in(1, 20); due("task(" + a + ", " + b + ")", x.task(a, b), m.task(a, b)); }
    private void join() { int t = someTask(); due("join(" + t + ")", x.join(t), m.join(t)); }
    private void leave() { int t = someTask(); due("leave(" + t + ")", x.leave(t), m.leave(t)); }
    private void weigh() { weigh(someTask(), in(1, 8)); }
    private void weigh(int t, int a) { due("weigh(" + t + ", " + a + ")", x.weigh(t, a), m.weigh(t, a)); }
    private void yields() { int t = someTask(); due("yields(" + t + ")", x.yields(t), m.yields(t)); }
    private void undo() { due("undo()", x.undo(), m.undo()); }
    private void listing() { int t = scripted(); due("listing(" + t + ")", x.listing(t), m.listing(t)); }

    private void sliceOrWish() {
        int t = someTask();
        if (r.nextBoolean()) {
            int a = in(1, 20);
            due("slice(" + t + ", " + a + ")", x.slice(t, a), m.slice(t, a));
        } else {
            int a = in(1, 99);
            due("wish(" + t + ", " + a + ")", x.wish(t, a), m.wish(t, a));
        }
    }

    private void quota() {
        int t = someTask(), n = r.nextInt(4) == 0 ? 0 : in(1, profile == 2 ? 4 : 50), p = r.nextInt(3) == 0 ? in(1, 60) : n + in(1, 10);
        due("quota(" + t + ", " + n + ", " + p + ")", x.quota(t, n, p), m.quota(t, n, p));
    }

    private void ticks() {
        int n = profile == 3 ? in(50, 60) : r.nextInt(3) == 0 ? in(1, 60) : in(1, 6);
        due("ticks(" + n + ")", x.ticks(n), m.ticks(n));
    }

    private void imageOrBack() {
        int k = in(0, 1);
        if (r.nextInt(3) > 0) due("image(" + k + ")", x.image(k), m.image(k));
        else due("back(" + k + ")", x.back(k), m.back(k));
    }

    private void terms() {
        int what = in(0, 2), v = what == 2 ? in(0, 1000000) : in(0, what == 0 ? 1 : 3);
        due("terms(" + what + ", " + v + ")", x.terms(what, v), m.terms(what, v));
    }

    private void script() {
        if (r.nextInt(8) > 0) {
            if (r.nextInt(10) > 0) due("end(0)", x.end(0), m.end(0));
            String text = text();
            for (int i = 0; i < text.length(); i += 20) {
                int[] f = new int[5];
                for (int j = 0; j < 20; j++) f[j / 4] = f[j / 4] << 8 | (i + j < text.length() ? text.charAt(i + j) : ' ');
                due("feed(" + f[0] + ", " + f[1] + ", " + f[2] + ", " + f[3] + ", " + f[4] + ")", x.feed(f[0], f[1], f[2], f[3], f[4]), m.feed(f));
            }
            int n = r.nextInt(15) == 0 ? in(0, 200) : text.length();
            due("end(" + n + ")", x.end(n), m.end(n));
        }
        int t = someTask();
        due("script(" + t + ")", x.script(t), m.script(t));
        due("fault()", x.fault(), m.fault());
    }

    private String text() {
        StringBuilder b = new StringBuilder();
        int steps = r.nextInt(12) == 0 ? 9 : 1 + r.nextInt(8);
        for (int i = 0; i < steps; i++) {
            if (i > 0) b.append(blanks()).append(',');
            int kind = r.nextInt(5);
            int most = kind < 2 && r.nextInt(4) > 0 ? 6 : MOST[kind];
            int n = r.nextInt(80) == 0 ? r.nextInt(300) : 1 + r.nextInt(most);
            b.append(blanks()).append(WORDS[kind]).append(blanks()).append(n);
        }
        b.append(blanks());
        if (r.nextInt(12) == 0) {
            int at = r.nextInt(b.length());
            int k = r.nextInt(3);
            if (k == 0) b.deleteCharAt(at);
            else if (k == 1) b.setCharAt(at, (char) r.nextInt(256));
            else b.insert(at, "rnp05, ;Z".charAt(r.nextInt(9)));
        }
        return b.toString();
    }

    private String blanks() { return r.nextInt(3) == 0 ? "  ".substring(r.nextInt(2)) : ""; }

    private void look() {
        int t = someTask(), a = someTime(), b = someTime(), k = in(0, 12), i = in(0, Math.max(1, m.count(7)));
        if (a > b && r.nextInt(8) > 0) {
            int c = a;
            a = b;
            b = c;
        }
        switch (r.nextInt(9)) {
            case 0 -> due("ran(" + a + ")", x.ran(a), m.ran(a));
            case 1 -> due("service(" + t + ", " + a + ", " + b + ")", x.service(t, a, b), m.service(t, a, b));
            case 2 -> due("share(" + t + ", " + a + ", " + b + ")", x.share(t, a, b), m.share(t, a, b));
            case 3 -> due("worst(" + t + ", " + (k & 1) + ")", x.worst(t, k & 1), m.worst(t, k & 1));
            case 4 -> due("earliest(" + k + ")", x.earliest(k), m.earliest(k));
            case 5 -> due("tape(" + i + ")", x.tape(i), m.tape(i));
            case 6 -> due("of(" + t + ", " + k + ")", x.of(t, k), m.of(t, k));
            case 7 -> due("exact(" + t + ", " + k + ")", x.exact(t, k), m.exact(t, k));
            default -> due("time(" + k + ")", x.time(k), m.time(k));
        }
    }

    private void paper() {
        int t = someTask(), n = in(1, 60), k = in(0, 4), what = in(0, 3);
        int few = Math.min(60, Math.max(1, n));
        int runs = r.nextInt(6) == 0 ? in(0, few) : r.nextInt(Math.max(1, few / 2));
        switch (r.nextInt(6)) {
            case 0 -> due("ahead(" + n + ")", x.ahead(n), m.ahead(n));
            case 1 -> {
                int f = scripted();
                due("finish(" + f + ")", x.finish(f), m.finish(f));
            }
            case 2 -> due("due(" + t + ")", x.due(t), m.due(t));
            case 3 -> due("least(" + t + ", " + runs + ", " + n + ")", x.least(t, runs, n), m.least(t, runs, n));
            default -> due("would(" + k + ", " + n + ", " + what + ")", x.would(k, n, what), m.would(k, n, what));
        }
    }

    /** Everything that can be seen at once. */
    private void lookAtAll() {
        for (int t = -1; t <= 12; t++) {
            for (int what = -1; what <= 15; what++) see("of(" + t + ", " + what + ")", x.of(t, what), m.of(t, what));
            for (int what = -1; what <= 4; what++) see("exact(" + t + ", " + what + ")", x.exact(t, what), m.exact(t, what));
            see("rank(" + t + ")", x.rank(t), m.rank(t));
            see("earliest(" + t + ")", x.earliest(t), m.earliest(t));
        }
        for (int what = -1; what <= 4; what++) see("time(" + what + ")", x.time(what), m.time(what));
        for (int what = -1; what <= 17; what++) see("count(" + what + ")", x.count(what), m.count(what));
        int now = (int) m.time(3);
        for (int t = now - 130; t <= now + 1; t++) see("ran(" + t + ")", x.ran(t), m.ran(t));
        int one = someTask(), a = someTime(), b = someTime(), edge = r.nextInt(2);
        see("worst(" + one + ", " + edge + ")", x.worst(one, edge), m.worst(one, edge));
        see("share(" + one + ", " + a + ", " + b + ")", x.share(one, a, b), m.share(one, a, b));
        see("eligible()", x.eligible(), m.eligible());
        see("status()", x.status(), m.status());
        see("fault()", x.fault(), m.fault());
    }
}
