import java.util.Random;

/** Any numbers in any call in any state: nothing is thrown, and numbers that can't be change nothing. */
public final class WildCalls {
    private static final int[] EDGES = {Integer.MIN_VALUE, Integer.MIN_VALUE + 1, -10000, -129, -128, -2, -1, 0, 1, 2, 3, 7, 8, 9, 11, 12,
        13, 19, 20, 21, 24, 31, 32, 33, 49, 50, 51, 59, 60, 61, 63, 64, 99, 100, 127, 128, 129, 199, 200, 201, 9998, 9999, 10000,
        1 << 20, 1_000_000, 1_000_001, Integer.MAX_VALUE - 60, Integer.MAX_VALUE - 1, Integer.MAX_VALUE};
    private static Random r = new Random(5);

    private static int any() { return r.nextInt(9) == 0 ? r.nextInt() : EDGES[r.nextInt(EDGES.length)]; }

    private static int few() { return r.nextInt(3) == 0 ? any() : r.nextInt(12); }

    public static void main(String[] args) {
        long sum = 0;
        for (int run = 0; run < 1500; run++) {
            DeadlineShare x = new DeadlineShare();
            for (int i = 0; i < 12; i++) x.task(1 + r.nextInt(4), 1 + r.nextInt(20));
            for (int i = 0; i < 500; i++) sum += call(x, r.nextInt(37));
        }
        System.out.println("wild calls threw nothing (" + sum + ")");
    }

    private static long call(DeadlineShare x, int which) {
        switch (which) {
            case 0: return x.terms(few(), few());
            case 1: return x.feed(0x72756e20, 0x392c6e61, 0x7020332c, any(), any());
            case 2: return x.end(few());
            case 3: return x.tape(any());
            case 4: return x.task(few(), few());
            case 5: return x.join(few());
            case 6: return x.leave(few());
            case 7: return x.weigh(few(), few());
            case 8: return x.slice(few(), few());
            case 9: return x.wish(few(), few());
            case 10: return x.yields(few());
            case 11: return x.quota(few(), few(), few());
            case 12: return x.script(few());
            case 13: return x.listing(few());
            case 14: return x.fault();
            case 15: return x.ticks(few());
            case 16: return x.undo();
            case 17: return x.image(r.nextInt(3));
            case 18: return x.back(r.nextInt(3));
            default: return look(x, which);
        }
    }

    private static long look(DeadlineShare x, int which) {
        switch (which) {
            case 19: return x.of(few(), few());
            case 20: return x.exact(few(), few());
            case 21: return x.time(few());
            case 22: return x.eligible();
            case 23: return x.earliest(few());
            case 24: return x.rank(few());
            case 25: return x.ran(any());
            case 26: return x.service(few(), any(), any());
            case 27: return x.share(few(), any(), any());
            case 28: return x.worst(few(), few());
            case 29: return x.ahead(few());
            case 30: return x.finish(few());
            case 31: return x.due(few());
            case 32: return x.least(few(), few(), few());
            case 33: return x.would(few(), few(), few());
            case 34: return x.count(any());
            case 35: return x.status();
            default: return x.ticks(1 + r.nextInt(60));
        }
    }
}
