/** What several tests do with an object before they ask it something. */
class Calls {
    static final int NONE = -1;
    static final long NOTHING = Long.MIN_VALUE;
    static final int REFUSED_ON_PAPER = Integer.MIN_VALUE;
    static final long U = 5_354_228_880L;

    /** The TAPE has just this text then. */
    static void put(DeadlineShare x, String text) {
        x.end(0);
        for (int i = 0; i < text.length(); i += 20) {
            int[] f = new int[5];
            for (int j = 0; j < 20; j++) f[j / 4] = f[j / 4] << 8 | (i + j < text.length() ? text.charAt(i + j) : ' ');
            x.feed(f[0], f[1], f[2], f[3], f[4]);
        }
        x.end(text.length());
    }

    static int script(DeadlineShare x, int task, String text) {
        put(x, text);
        return x.script(task);
    }

    static String onTape(DeadlineShare x) {
        StringBuilder b = new StringBuilder();
        for (int i = 0; i < x.count(7); i++) b.append((char) x.tape(i));
        return b.toString();
    }

    /** Tasks of weight and slice pairs, all ON. */
    static DeadlineShare joined(int... pairs) {
        DeadlineShare x = new DeadlineShare();
        for (int i = 0; i < pairs.length; i += 2) {
            x.task(pairs[i], pairs[i + 1]);
            x.join(i / 2);
        }
        return x;
    }

    /** A and B of weight 1 and slice 4: A yields, so its LAG is -2 U, B's 2 U. */
    static DeadlineShare yielded() {
        DeadlineShare x = joined(1, 4, 1, 4);
        x.yields(0);
        return x;
    }

    /** 0 and 1 of weight 1 are ON: v of 1 is 1 below that of 0, so V is between them. */
    static DeadlineShare oneApart() {
        return oneApart(1);
    }

    /** The same, 1 having a new REQUEST of this SLICE. */
    static DeadlineShare oneApart(int slice) {
        DeadlineShare x = joined(1, 1, 1, 1, 8, 1);
        x.weigh(2, 7);
        x.ticks(1);
        x.weigh(2, 6);
        x.weigh(1, 6);
        x.weigh(1, 1);
        x.yields(0);
        x.weigh(2, 5);
        x.leave(2);
        if (slice != 1) x.slice(1, slice);
        x.ticks(1);
        return x;
    }

    /** 3 and 2 are ON, both below 0: v of 3 is -55 U by 153; v of 2 is that less 7 U by 192, which is not whole. */
    static DeadlineShare belowZero() {
        DeadlineShare x = joined(1, 1, 8, 1, 7, 1, 8, 1);
        x.yields(0);
        x.leave(2);
        x.leave(3);
        x.leave(1);
        x.weigh(1, 1);
        x.weigh(2, 8);
        x.weigh(3, 1);
        x.join(1);
        x.leave(0);
        x.join(3);
        x.leave(1);
        x.join(2);
        return x;
    }

    /** Who ran in the TICKS a to b (without b), a digit each, '.' for NONE. */
    static String whoRan(DeadlineShare x, int a, int b) {
        StringBuilder s = new StringBuilder();
        for (int t = a; t < b; t++) s.append(x.ran(t) == NONE ? "." : Integer.toString(x.ran(t)));
        return s.toString();
    }

    static void ticks(DeadlineShare x, int n) {
        for (int left = n; left > 0; left -= 60) x.ticks(Math.min(60, left));
    }
}
