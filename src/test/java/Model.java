import java.math.BigInteger;
import java.util.ArrayList;
import java.util.Comparator;
import java.util.List;
import java.util.TreeMap;

/**
 * The document told once more, as plainly and wastefully as can be: exact fractions of big
 * numbers, whole copies for undo and images, the whole log. RandomRuns holds the class against it.
 */
final class Model {
    static final BigInteger UNIT = BigInteger.valueOf(5_354_228_880L);

    /** A fraction that is never cut, unless one asks for floor. */
    record Frac(BigInteger num, BigInteger den) {
        static Frac of(long n) { return new Frac(BigInteger.valueOf(n), BigInteger.ONE); }
        static Frac of(BigInteger n) { return new Frac(n, BigInteger.ONE); }
        static Frac of(BigInteger n, BigInteger d) {
            if (d.signum() < 0) { n = n.negate(); d = d.negate(); }
            BigInteger g = n.gcd(d);
            return g.signum() == 0 ? new Frac(n, d) : new Frac(n.divide(g), d.divide(g));
        }
        Frac plus(Frac o) { return of(num.multiply(o.den).add(o.num.multiply(den)), den.multiply(o.den)); }
        Frac minus(Frac o) { return plus(new Frac(o.num.negate(), o.den)); }
        Frac times(long k) { return of(num.multiply(BigInteger.valueOf(k)), den); }
        Frac by(long k) { return of(num, den.multiply(BigInteger.valueOf(k))); }
        int cmp(Frac o) { return num.multiply(o.den).compareTo(o.num.multiply(den)); }
        Frac min(Frac o) { return cmp(o) <= 0 ? this : o; }
        Frac max(Frac o) { return cmp(o) >= 0 ? this : o; }
        BigInteger floor() {
            BigInteger[] qr = num.divideAndRemainder(den);
            return qr[1].signum() < 0 ? qr[0].subtract(BigInteger.ONE) : qr[0];
        }
        /** Its lower 64 bits, if a long can't be it. */
        long whole() {
            if (!den.equals(BigInteger.ONE)) throw new IllegalStateException("not whole");
            return num.longValue();
        }
        /** v is a long: what a long can't be comes round. */
        BigInteger floorAsLong() { return BigInteger.valueOf(floor().longValue()); }
    }

    static final Frac ZERO = Frac.of(0);
    static final Frac U = Frac.of(UNIT);

    enum Kind { OFF, ON, NAPPING, THROTTLED }

    record Step(String word, int n) { }

    static final class T {
        final int no;
        int weight, slice;
        Kind kind = Kind.OFF;
        BigInteger v = BigInteger.ZERO;
        int left, served, requests, late, wait, longest, napTill;
        Frac lag = ZERO;
        int lagW = 1;
        Integer budget = null;
        int quota, period;
        List<Step> script = null;
        int at, ranInStep, backs;

        T(int no) { this.no = no; }

        T copy() {
            T c = new T(no);
            c.weight = weight; c.slice = slice; c.kind = kind; c.v = v; c.left = left; c.served = served;
            c.requests = requests; c.late = late; c.wait = wait; c.longest = longest; c.napTill = napTill;
            c.lag = lag; c.lagW = lagW; c.budget = budget; c.quota = quota; c.period = period;
            c.script = script; c.at = at; c.ranInStep = ranInStep; c.backs = backs;
            return c;
        }

        boolean on() { return kind == Kind.ON; }
        boolean spent() { return budget != null && budget == 0; }
        Frac deadline() { return Frac.of(v).plus(U.times(left).by(weight)); }
    }

    record Entry(int who, int w, TreeMap<Integer, Integer> weights) { }

    static final class World {
        List<T> tasks = new ArrayList<>();
        int time = 0;
        BigInteger rest = BigInteger.ZERO;
        List<Entry> log = new ArrayList<>();
        int last = -1;
        int goesOn = -1;

        World copy() {
            World c = new World();
            for (T t : tasks) c.tasks.add(t.copy());
            c.time = time; c.rest = rest; c.log = new ArrayList<>(log); c.last = last; c.goesOn = goesOn;
            return c;
        }
    }

    record Act(int code, World before) { }

    World w = new World();
    int mode = 0, carry = 1, seed = 1;
    final List<Integer> tape = new ArrayList<>();
    final List<Act> acts = new ArrayList<>();
    final World[] images = new World[2];
    int fault = -1, status = 0;
    final int[] refused = new int[7];

    // ---- terms of the document

    static List<T> allOn(World x) {
        List<T> on = new ArrayList<>();
        for (T t : x.tasks) if (t.on()) on.add(t);
        return on;
    }

    static int bigW(World x) { int s = 0; for (T t : allOn(x)) s += t.weight; return s; }

    static Frac bigV(World x) {
        Frac s = ZERO;
        List<T> on = allOn(x);
        if (on.isEmpty()) return Frac.of(x.rest);
        for (T t : on) s = s.plus(Frac.of(t.v).times(t.weight));
        return s.by(bigW(x));
    }

    static Frac lag(World x, T t) { return bigV(x).minus(Frac.of(t.v)).times(t.weight); }

    static boolean eligible(World x, T t) { return t.on() && Frac.of(t.v).cmp(bigV(x)) <= 0; }

    void toJoin(World x, T t) {
        Frac most = U.times(t.slice);
        Frac carried = switch (carry) {
            case 0 -> ZERO;
            case 1 -> t.lag;
            case 2 -> t.lag.min(most).max(ZERO.minus(most));
            default -> t.lag.min(ZERO);
        };
        t.v = bigV(x).minus(carried.by(t.weight)).floorAsLong();
        t.left = t.slice;
        t.wait = 0;
        t.kind = Kind.ON;
    }

    static void toLeave(World x, T t, Kind kind) {
        t.lag = lag(x, t);
        t.lagW = bigW(x);
        if (allOn(x).size() == 1) x.rest = bigV(x).floor();
        t.kind = kind;
        if (x.goesOn == t.no) x.goesOn = -1;
    }

    static boolean room(World x, int more) { return bigW(x) + more <= 24; }

    static boolean roomToWeigh(World x, T t, int weight) { return !t.on() || room(x, weight - t.weight); }

    static void toWeigh(World x, T t, int weight) {
        if (t.on()) {
            Frac v = bigV(x);
            t.v = v.minus(lag(x, t).by(weight)).floorAsLong();
        }
        t.weight = weight;
    }

    static void newSlice(T t, int slice) {
        t.slice = slice;
        if (t.left > slice) t.left = slice;
    }

    void goOn(World x, T t, int timeOfNap) {
        while (true) {
            if (t.at == t.script.size()) {
                toLeave(x, t, Kind.OFF);
                t.script = null;
                return;
            }
            Step s = t.script.get(t.at);
            if (s.word().equals("run")) {
                if (t.ranInStep < s.n()) return;
                t.ranInStep = 0;
                t.at++;
            } else if (s.word().equals("nap")) {
                toLeave(x, t, Kind.NAPPING);
                t.napTill = timeOfNap + s.n();
                return;
            } else if (s.word().equals("weigh")) {
                if (roomToWeigh(x, t, s.n())) toWeigh(x, t, s.n());
                t.at++;
            } else if (s.word().equals("slice")) {
                newSlice(t, s.n());
                t.at++;
            } else if (t.backs < s.n()) {
                t.backs++;
                int to = 0;
                for (int i = 0; i < t.at; i++) if (t.script.get(i).word().equals("again")) to = i + 1;
                t.at = to;
            } else {
                t.backs = 0;
                t.at++;
            }
        }
    }

    /** The state of the draws of WAY 4. */
    private long s;

    int choose(World x, int way) {
        List<T> on = allOn(x);
        if (on.isEmpty()) return -1;
        Comparator<T> byDeadline = (a, b) -> a.deadline().cmp(b.deadline());
        Comparator<T> byNumber = Comparator.comparingInt(t -> t.no);
        if (way == 1) return on.stream().min(Comparator.comparing((T t) -> t.v).thenComparing(byNumber)).get().no;
        if (way == 2) return on.stream().min(byDeadline.thenComparing(byNumber)).get().no;
        if (way == 3) {
            for (T t : on) if (t.no > x.last) return t.no;
            return on.get(0).no;
        }
        if (way == 4) {
            s = (1103 * s + 12345) % 1_000_003;
            List<Integer> parts = new ArrayList<>();
            for (T t : on) for (int i = 0; i < t.weight; i++) parts.add(t.no);
            return parts.get((int) (s % parts.size()));
        }
        if (mode == 1 && x.goesOn >= 0) return x.goesOn;
        return on.stream().filter(t -> eligible(x, t)).min(byDeadline.thenComparing(byNumber)).get().no;
    }

    int tick(World x, int way) {
        for (T t : x.tasks) if (t.quota > 0 && x.time % t.period == 0) t.budget = t.quota;
        for (T t : x.tasks) {
            if (t.kind == Kind.THROTTLED && !t.spent() && room(x, t.weight)) {
                toJoin(x, t);
            } else if (t.kind == Kind.NAPPING && t.napTill == x.time) {
                if (t.spent() || !room(x, t.weight)) {
                    t.napTill = x.time + 1;
                } else {
                    toJoin(x, t);
                    t.at++;
                    goOn(x, t, x.time);
                }
            }
        }
        int who = choose(x, way);
        TreeMap<Integer, Integer> weights = new TreeMap<>();
        for (T t : allOn(x)) weights.put(t.no, t.weight);
        x.log.add(new Entry(who, bigW(x), weights));
        x.goesOn = -1;
        if (who >= 0) run(x, x.tasks.get(who));
        x.time++;
        return who;
    }

    private void run(World x, T r) {
        r.v = Frac.of(r.v).plus(U.by(r.weight)).floorAsLong();
        r.served++;
        if (r.budget != null) r.budget = r.budget - 1;
        for (T t : allOn(x)) {
            t.wait = t == r ? 0 : Math.min(999, t.wait + 1);
            t.longest = Math.max(t.longest, t.wait);
        }
        r.left--;
        x.last = r.no;
        if (r.left == 0) {
            r.requests++;
            if (r.deadline().cmp(bigV(x)) < 0) r.late++;
            r.left = r.slice;
        } else {
            x.goesOn = r.no;
        }
        if (r.script != null) {
            r.ranInStep++;
            goOn(x, r, x.time + 1);
        }
        if (r.on() && r.spent()) toLeave(x, r, Kind.THROTTLED);
    }

    // ---- the face

    private int refuse(int by) { status = by; refused[-by]++; return by; }
    private int fine(int answer) { status = 0; return answer; }
    private boolean none(int task) { return task < 0 || task >= w.tasks.size(); }
    private void act(int code) {
        acts.add(new Act(code, w.copy()));
        if (acts.size() > 10) acts.remove(0);
    }

    int terms(int what, int value) {
        int[] most = {1, 3, 1_000_000};
        if (what < 0 || what > 2 || value < 0 || value > most[what]) return refuse(-1);
        int was = count(13 + what);
        if (what == 0) mode = value;
        if (what == 1) carry = value;
        if (what == 2) seed = value;
        return fine(was);
    }

    int feed(int... five) {
        if (tape.size() > 180) return -1;
        for (int f : five) for (int shift = 24; shift >= 0; shift -= 8) tape.add(f >> shift & 255);
        return tape.size();
    }

    int end(int n) {
        if (n < 0 || n > tape.size()) return -1;
        while (tape.size() > n) tape.remove(tape.size() - 1);
        return n;
    }

    int tape(int i) { return i < 0 || i >= tape.size() ? -1 : tape.get(i); }

    int task(int weight, int slice) {
        if (weight < 1 || weight > 8 || slice < 1 || slice > 20) return refuse(-1);
        if (w.tasks.size() == 12) return refuse(-5);
        act(0);
        T t = new T(w.tasks.size());
        t.weight = weight;
        t.slice = slice;
        w.tasks.add(t);
        return fine(t.no);
    }

    int join(int task) {
        if (none(task)) return refuse(-2);
        T t = w.tasks.get(task);
        if (t.kind != Kind.OFF || t.spent()) return refuse(-4);
        if (!room(w, t.weight)) return refuse(-5);
        act(1);
        toJoin(w, t);
        return fine(bigW(w));
    }

    int leave(int task) {
        if (none(task)) return refuse(-2);
        T t = w.tasks.get(task);
        if (t.kind == Kind.OFF) return refuse(-4);
        act(2);
        if (t.on()) toLeave(w, t, Kind.OFF);
        t.kind = Kind.OFF;
        t.script = null;
        return fine(bigW(w));
    }

    int weigh(int task, int weight) {
        if (weight < 1 || weight > 8) return refuse(-1);
        if (none(task)) return refuse(-2);
        T t = w.tasks.get(task);
        if (t.weight == weight) return refuse(-4);
        if (!roomToWeigh(w, t, weight)) return refuse(-5);
        act(3);
        int was = t.weight;
        toWeigh(w, t, weight);
        return fine(was);
    }

    int slice(int task, int slice) {
        if (slice < 1 || slice > 20) return refuse(-1);
        if (none(task)) return refuse(-2);
        T t = w.tasks.get(task);
        if (t.slice == slice) return refuse(-4);
        act(4);
        int was = t.slice;
        newSlice(t, slice);
        return fine(was);
    }

    int wish(int task, int n) {
        if (n < 1 || n > 99) return refuse(-1);
        if (none(task)) return refuse(-2);
        act(7);
        T t = w.tasks.get(task);
        int all = t.on() ? bigW(w) : bigW(w) + t.weight;
        newSlice(t, Math.min(20, Math.max(1, Frac.of(n).times(t.weight).by(all).floor().intValueExact())));
        return fine(t.slice);
    }

    int yields(int task) {
        if (none(task)) return refuse(-2);
        T t = w.tasks.get(task);
        if (!t.on()) return refuse(-4);
        act(8);
        int was = t.left;
        t.v = t.deadline().floorAsLong();
        t.left = t.slice;
        if (w.goesOn == task) w.goesOn = -1;
        return fine(was);
    }

    int quota(int task, int n, int period) {
        if (n < 0 || n > 50) return refuse(-1);
        if (n != 0 && (period <= n || period > 60)) return refuse(-1);
        if (none(task)) return refuse(-2);
        act(9);
        T t = w.tasks.get(task);
        int was = t.budget == null ? -1 : t.budget;
        t.quota = n;
        t.period = n == 0 ? 0 : period;
        t.budget = n == 0 ? null : Integer.valueOf(n);
        return fine(was);
    }

    int script(int task) {
        if (none(task)) return refuse(-2);
        T t = w.tasks.get(task);
        if (t.kind == Kind.NAPPING || t.kind == Kind.THROTTLED) return refuse(-4);
        if (t.kind == Kind.OFF && t.spent()) return refuse(-4);
        if (t.kind == Kind.OFF && !room(w, t.weight)) return refuse(-5);
        List<Step> steps = new ArrayList<>();
        fault = read(steps);
        tape.clear();
        if (fault >= 0) return refuse(-6);
        act(5);
        if (!t.on()) toJoin(w, t);
        t.script = steps;
        t.at = 0;
        t.ranInStep = 0;
        t.backs = 0;
        goOn(w, t, w.time);
        return fine(steps.size());
    }

    private record Token(String text, int place) { }

    private static int sort(int c) {
        if (c >= 'a' && c <= 'z') return 1;
        return c >= '0' && c <= '9' ? 2 : 3;
    }

    private List<Token> tokens() {
        List<Token> all = new ArrayList<>();
        int i = 0;
        while (i < tape.size()) {
            int c = tape.get(i);
            int j = i + 1;
            if (c != 32) {
                while (sort(c) < 3 && j < tape.size() && sort(tape.get(j)) == sort(c)) j++;
                StringBuilder b = new StringBuilder();
                for (int k = i; k < j; k++) b.append((char) (int) tape.get(k));
                all.add(new Token(b.toString(), i));
            }
            i = j;
        }
        return all;
    }

    private int read(List<Step> steps) {
        List<Token> all = tokens();
        TreeMap<String, Integer> most = new TreeMap<>();
        most.put("run", 99);
        most.put("nap", 99);
        most.put("weigh", 8);
        most.put("slice", 20);
        most.put("again", 9);
        for (int i = 0; ; i += 3) {
            if (i >= all.size()) return tape.size();
            Token word = all.get(i);
            if (!most.containsKey(word.text()) || steps.size() == 8) return word.place();
            if (i + 1 >= all.size()) return tape.size();
            Token number = all.get(i + 1);
            if (sort(number.text().charAt(0)) != 2) return number.place();
            BigInteger n = new BigInteger(number.text());
            if (n.signum() == 0 || n.compareTo(BigInteger.valueOf(most.get(word.text()))) > 0) return number.place();
            steps.add(new Step(word.text(), n.intValueExact()));
            if (i + 2 >= all.size()) return -1;
            if (!all.get(i + 2).text().equals(",")) return all.get(i + 2).place();
        }
    }

    int listing(int task) {
        if (none(task)) return refuse(-2);
        T t = w.tasks.get(task);
        if (t.script == null) return refuse(-4);
        List<String> parts = new ArrayList<>();
        for (Step s : t.script) parts.add(s.word() + " " + s.n());
        tape.clear();
        for (char c : String.join(",", parts).toCharArray()) tape.add((int) c);
        return fine(tape.size());
    }

    int ticks(int n) {
        if (n < 1 || n > 60) return refuse(-1);
        if (w.time + n > 9999) return refuse(-4);
        act(6);
        int busy = 0;
        for (int i = 0; i < n; i++) if (tick(w, 0) >= 0) busy++;
        return fine(busy);
    }

    int undo() {
        if (acts.isEmpty()) return refuse(-4);
        Act a = acts.remove(acts.size() - 1);
        w = a.before();
        return fine(a.code());
    }

    int image(int k) {
        if (k != 0 && k != 1) return refuse(-1);
        images[k] = w.copy();
        return fine(w.time);
    }

    int back(int k) {
        if (k != 0 && k != 1) return refuse(-1);
        if (images[k] == null) return refuse(-4);
        w = images[k].copy();
        acts.clear();
        return fine(w.time);
    }

    int of(int task, int what) {
        if (none(task)) return -1;
        T t = w.tasks.get(task);
        boolean held = t.script != null && t.script.get(t.at).word().equals("run");
        return switch (what) {
            case 0 -> t.weight;
            case 1 -> t.slice;
            case 2 -> t.kind.ordinal();
            case 3 -> t.on() ? t.left : -1;
            case 4 -> t.served;
            case 5 -> t.requests;
            case 6 -> t.late;
            case 7 -> t.on() ? t.wait : -1;
            case 8 -> t.longest;
            case 9 -> t.kind == Kind.NAPPING ? t.napTill : -1;
            case 10 -> t.script == null ? -1 : t.at;
            case 11 -> held ? t.script.get(t.at).n() - t.ranInStep : -1;
            case 12 -> t.budget == null ? -1 : t.budget;
            case 13 -> t.quota;
            case 14 -> t.period;
            default -> -1;
        };
    }

    long exact(int task, int what) {
        if (none(task)) return Long.MIN_VALUE;
        T t = w.tasks.get(task);
        if (t.on() && what == 0) return t.v.longValueExact();
        if (t.on() && what == 1) return t.deadline().whole();
        if (t.on() && what == 2) return lag(w, t).times(bigW(w)).whole();
        if (!t.on() && what == 3) return t.lag.times(t.lagW).whole();
        return Long.MIN_VALUE;
    }

    long time(int what) {
        if (what == 0) return bigV(w).floor().longValueExact();
        if (what == 1) return allOn(w).isEmpty() ? 0 : bigV(w).minus(Frac.of(bigV(w).floor())).times(bigW(w)).whole();
        if (what == 2) return bigW(w);
        if (what == 3) return w.time;
        return Long.MIN_VALUE;
    }

    int eligible() {
        int bits = 0;
        for (T t : w.tasks) if (eligible(w, t)) bits += 1 << t.no;
        return bits;
    }

    int earliest(int k) {
        List<T> all = new ArrayList<>();
        for (T t : w.tasks) if (eligible(w, t)) all.add(t);
        all.sort((a, b) -> a.deadline().cmp(b.deadline()));
        return k < 0 || k >= all.size() ? -1 : all.get(k).no;
    }

    int rank(int task) {
        if (none(task) || !w.tasks.get(task).on()) return -1;
        List<T> all = allOn(w);
        all.sort(Comparator.comparing(t -> t.v));
        return all.indexOf(w.tasks.get(task));
    }

    private boolean kept(long time) { return time >= 0 && time < w.time && time >= w.time - 128; }

    int ran(int time) { return kept(time) ? w.log.get(time).who() : -1; }

    int service(int task, int a, int b) {
        if (none(task)) return -1;
        if (a == b) return 0;
        if (a > b || !kept(a) || !kept(b - 1L)) return -1;
        int n = 0;
        for (int i = a; i < b; i++) if (w.log.get(i).who() == task) n++;
        return n;
    }

    private Frac shareOf(int task, int i) {
        Entry e = w.log.get(i);
        return e.weights().containsKey(task) ? U.times(e.weights().get(task)).by(e.w()) : ZERO;
    }

    long share(int task, int a, int b) {
        if (none(task)) return Long.MIN_VALUE;
        if (a == b) return 0;
        if (a > b || !kept(a) || !kept(b - 1L)) return Long.MIN_VALUE;
        Frac sum = ZERO;
        for (int i = a; i < b; i++) sum = sum.plus(shareOf(task, i));
        return sum.whole();
    }

    long worst(int task, int what) {
        if (none(task) || what < 0 || what > 1) return Long.MIN_VALUE;
        Frac best = null;
        for (int a = Math.max(0, w.time - 128); a < w.time; a++) {
            Frac sum = ZERO;
            for (int b = a; b < w.time && w.log.get(b).weights().containsKey(task); b++) {
                sum = sum.minus(shareOf(task, b));
                if (w.log.get(b).who() == task) sum = sum.plus(U);
                if (best == null) best = sum;
                best = what == 0 ? best.max(sum) : best.min(sum);
            }
        }
        return best == null ? Long.MIN_VALUE : best.whole();
    }

    int ahead(int n) {
        if (n < 1 || n > 60 || w.time + n > 9999) return -1;
        World p = w.copy();
        int who = -1;
        for (int i = 0; i < n; i++) who = tick(p, 0);
        return who;
    }

    int finish(int task) {
        if (none(task) || w.tasks.get(task).script == null) return -1;
        World p = w.copy();
        for (int n = 1; n <= 500 && p.time < 9999; n++) {
            tick(p, 0);
            if (p.tasks.get(task).script == null) return n;
        }
        return -1;
    }

    int due(int task) {
        if (none(task)) return -1;
        World p = w.copy();
        for (int n = 1; n <= 500 && p.time < 9999; n++) {
            tick(p, 0);
            if (p.tasks.get(task).requests > w.tasks.get(task).requests) return n;
        }
        return -1;
    }

    int least(int task, int n, int m) {
        if (none(task) || m < 1 || m > 60 || n < 0 || n > m || w.time + m > 9999) return -1;
        for (int weight = 1; weight <= 8; weight++) {
            World p = w.copy();
            T t = p.tasks.get(task);
            if (t.weight != weight) {
                if (!roomToWeigh(p, t, weight)) continue;
                toWeigh(p, t, weight);
            }
            int before = t.served;
            for (int i = 0; i < m; i++) tick(p, 0);
            if (t.served - before >= n) return weight;
        }
        return -1;
    }

    int would(int way, int n, int what) {
        if (way < 0 || way > 4 || n < 1 || n > 60 || what < 0 || what > 3) return Integer.MIN_VALUE;
        if (w.time + n > 9999) return Integer.MIN_VALUE;
        World p = w.copy();
        s = seed;
        Frac greatest = ZERO;
        Frac least = ZERO;
        int changes = 0;
        int idle = 0;
        for (int i = 0; i < n; i++) {
            int last = p.last;
            int who = tick(p, way);
            if (who < 0) idle++;
            else if (who != last) changes++;
            for (T t : allOn(p)) {
                greatest = greatest.max(lag(p, t));
                least = least.min(lag(p, t));
            }
        }
        if (what == 0) return Frac.of(greatest.num().multiply(BigInteger.valueOf(100)), greatest.den().multiply(UNIT)).floor().intValue();
        if (what == 1) return Frac.of(least.num().multiply(BigInteger.valueOf(100)), least.den().multiply(UNIT)).floor().intValue();
        return what == 2 ? changes : idle;
    }

    private int kinds(Kind k) { int n = 0; for (T t : w.tasks) if (t.kind == k) n++; return n; }

    int count(int what) {
        int scripts = 0;
        for (T t : w.tasks) if (t.script != null) scripts++;
        return switch (what) {
            case 0 -> w.tasks.size();
            case 1 -> kinds(Kind.ON);
            case 2 -> kinds(Kind.NAPPING);
            case 3 -> scripts;
            case 4 -> w.last;
            case 5 -> Math.min(128, w.log.size());
            case 6 -> acts.size();
            case 7 -> tape.size();
            case 8 -> refused[1];
            case 9 -> refused[2];
            case 10 -> refused[4];
            case 11 -> refused[5];
            case 12 -> refused[6];
            case 13 -> mode;
            case 14 -> carry;
            case 15 -> seed;
            case 16 -> kinds(Kind.THROTTLED);
            default -> -1;
        };
    }

    int fault() { return fault; }
    int status() { return status; }
}
