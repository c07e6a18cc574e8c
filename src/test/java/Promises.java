/** For each promise of the document: ordinary calls, the edges that it names, and wrong numbers. */
public final class Promises extends Calls {
    private static int checks = 0;
    private static int wrong = 0;

    public static void main(String[] args) {
        aNewObject();
        terms();
        tape();
        task();
        join();
        joinWithLag();
        joinBelowZero();
        leave();
        weigh();
        weighIsCut();
        slice();
        wish();
        yields();
        quota();
        throttle();
        script();
        scriptRefused();
        scriptSteps();
        scriptWithoutRoom();
        listing();
        fault();
        ticks();
        ticksByMode();
        ticksToTheEnd();
        waits();
        late();
        undo();
        undoTen();
        images();
        of();
        exactAndTime();
        orders();
        log();
        logIsShort();
        worst();
        ahead();
        finishAndDue();
        least();
        would();
        wouldByDraws();
        paperChangesNothing();
        count();
        status();
        System.out.println(wrong == 0 ? checks + " checks of promises are fine" : wrong + " of " + checks + " checks are wrong");
        if (wrong != 0) System.exit(1);
    }

    private static void due(int promise, String call, long got, long want) {
        checks++;
        if (got != want) {
            wrong++;
            System.out.println("promise " + promise + ": " + call + " answered " + got + ", due is " + want);
        }
    }

    private static void dueText(int promise, String call, String got, String want) {
        checks++;
        if (!got.equals(want)) {
            wrong++;
            System.out.println("promise " + promise + ": " + call + " answered '" + got + "', due is '" + want + "'");
        }
    }

    private static void aNewObject() {
        DeadlineShare x = new DeadlineShare();
        int[] counts = {0, 0, 0, 0, NONE, 0, 0, 0, 0, 0, 0, 0, 0, 0, 1, 1, 0};
        for (int k = 0; k < counts.length; k++) due(1, "count(" + k + ")", x.count(k), counts[k]);
        for (int k = 0; k < 4; k++) due(1, "time(" + k + ")", x.time(k), 0);
        due(1, "status()", x.status(), 0);
        due(1, "fault()", x.fault(), NONE);
        due(1, "eligible()", x.eligible(), 0);
        due(1, "earliest(0)", x.earliest(0), NONE);
        due(1, "tape(0)", x.tape(0), NONE);
        due(1, "of(0, 0)", x.of(0, 0), NONE);
        due(1, "undo()", x.undo(), -4);
        due(1, "back(0)", x.back(0), -4);
        due(1, "NONE", DeadlineShare.NONE, -1);
        due(1, "NOTHING", DeadlineShare.NOTHING, Long.MIN_VALUE);
    }

    private static void terms() {
        DeadlineShare x = new DeadlineShare();
        due(2, "terms(0, 1)", x.terms(0, 1), 0);
        due(2, "terms(0, 1)", x.terms(0, 1), 1);
        due(2, "terms(0, 2)", x.terms(0, 2), -1);
        due(2, "terms(0, -1)", x.terms(0, -1), -1);
        due(2, "terms(1, 3)", x.terms(1, 3), 1);
        due(2, "terms(1, 4)", x.terms(1, 4), -1);
        due(2, "terms(1, 0)", x.terms(1, 0), 3);
        due(2, "terms(2, 1000000)", x.terms(2, 1_000_000), 1);
        due(2, "terms(2, 1000001)", x.terms(2, 1_000_001), -1);
        due(2, "terms(2, 0)", x.terms(2, 0), 1_000_000);
        due(2, "terms(3, 0)", x.terms(3, 0), -1);
        due(2, "terms(-1, 0)", x.terms(-1, 0), -1);
        due(2, "count(13)", x.count(13), 1);
        due(2, "count(14)", x.count(14), 0);
        due(2, "count(15)", x.count(15), 0);
        due(2, "count(8)", x.count(8), 6);
        due(2, "terms are no act", x.undo(), -4);
    }

    private static void tape() {
        DeadlineShare x = new DeadlineShare();
        due(3, "feed", x.feed(0x01020304, -1, 0x80000000, 0x7fff00fe, 5), 20);
        int[] bytes = {1, 2, 3, 4, 255, 255, 255, 255, 128, 0, 0, 0, 127, 255, 0, 254, 0, 0, 0, 5};
        for (int i = 0; i < 20; i++) due(5, "tape(" + i + ")", x.tape(i), bytes[i]);
        due(5, "tape(20)", x.tape(20), NONE);
        due(5, "tape(-1)", x.tape(-1), NONE);
        for (int n = 2; n <= 10; n++) due(3, "feed no. " + n, x.feed(n, n, n, n, n), 20 * n);
        due(3, "feed beyond 200", x.feed(1, 1, 1, 1, 1), NONE);
        due(3, "count(7)", x.count(7), 200);
        due(5, "tape(199)", x.tape(199), 10);
        due(5, "tape(200)", x.tape(200), NONE);
        due(4, "end(201)", x.end(201), NONE);
        due(4, "end(-1)", x.end(-1), NONE);
        due(4, "end(200)", x.end(200), 200);
        due(4, "end(181)", x.end(181), 181);
        due(3, "feed beyond 200", x.feed(1, 1, 1, 1, 1), NONE);
        due(4, "end(180)", x.end(180), 180);
        due(3, "feed up to 200", x.feed(7, 7, 7, 7, 7), 200);
        due(5, "tape(183)", x.tape(183), 7);
        due(4, "end(3)", x.end(3), 3);
        due(4, "end(4)", x.end(4), NONE);
        due(5, "tape(3)", x.tape(3), NONE);
        due(4, "end(0)", x.end(0), 0);
        due(3, "no REFUSED call", x.count(8), 0);
        due(37, "status()", x.status(), 0);
    }

    private static void task() {
        DeadlineShare x = new DeadlineShare();
        due(6, "task(0, 1)", x.task(0, 1), -1);
        due(6, "task(9, 1)", x.task(9, 1), -1);
        due(6, "task(1, 0)", x.task(1, 0), -1);
        due(6, "task(1, 21)", x.task(1, 21), -1);
        for (int i = 0; i < 12; i++) due(6, "task(8, 20)", x.task(8, 20), i);
        due(6, "a 13th task", x.task(1, 1), -5);
        due(6, "-1 ahead of -5", x.task(9, 1), -1);
        due(6, "of(11, 0)", x.of(11, 0), 8);
        due(6, "of(11, 1)", x.of(11, 1), 20);
        due(6, "of(11, 2)", x.of(11, 2), 0);
    }

    private static void join() {
        DeadlineShare x = new DeadlineShare();
        for (int i = 0; i < 3; i++) x.task(8, 5);
        x.task(1, 2);
        due(7, "join(4)", x.join(4), -2);
        due(7, "join(-1)", x.join(-1), -2);
        due(7, "join(0)", x.join(0), 8);
        due(7, "join(0) again", x.join(0), -4);
        due(7, "join(1)", x.join(1), 16);
        due(7, "join(2): 24 is room enough", x.join(2), 24);
        due(7, "join(3): 25 is not", x.join(3), -5);
        due(7, "of(3, 2)", x.of(3, 2), 0);
        due(7, "of(0, 3): LEFT is SLICE", x.of(0, 3), 5);
        due(7, "of(0, 7): WAIT is 0", x.of(0, 7), 0);
        x.ticks(3);
        due(7, "leave(0)", x.leave(0), 16);
        due(7, "join(3)", x.join(3), 17);
        due(7, "it joins at V", x.exact(3, 0), x.time(0));
    }

    private static long joinsAt(int carry, int task, int slice, int weight) {
        DeadlineShare x = yielded();
        x.leave(task);
        x.terms(1, carry);
        if (slice != 4) x.slice(task, slice);
        if (weight != 1) x.weigh(task, weight);
        x.join(task);
        return x.exact(task, 0);
    }

    private static void joinWithLag() {
        DeadlineShare x = yielded();
        due(22, "LAG times W of A", x.exact(0, 2), -4 * U);
        due(22, "LAG times W of B", x.exact(1, 2), 4 * U);
        x.leave(0);
        due(22, "LAG with which A left, times W", x.exact(0, 3), -4 * U);
        due(7, "A, CARRY 0", joinsAt(0, 0, 4, 1), 0);
        due(7, "A, CARRY 1", joinsAt(1, 0, 4, 1), 2 * U);
        due(7, "A, CARRY 2", joinsAt(2, 0, 4, 1), 2 * U);
        due(7, "A, CARRY 2, slice 1", joinsAt(2, 0, 1, 1), U);
        due(7, "A, CARRY 3", joinsAt(3, 0, 4, 1), 2 * U);
        due(7, "A, CARRY 1, weight 4", joinsAt(1, 0, 4, 4), U / 2);
        due(7, "B, CARRY 0", joinsAt(0, 1, 4, 1), 4 * U);
        due(7, "B, CARRY 1", joinsAt(1, 1, 4, 1), 2 * U);
        due(7, "B, CARRY 2, slice 1", joinsAt(2, 1, 1, 1), 3 * U);
        due(7, "B, CARRY 2, slice 1, weight 2", joinsAt(2, 1, 1, 2), 4 * U - U / 2);
        due(7, "B, CARRY 3", joinsAt(3, 1, 4, 1), 4 * U);
        due(7, "B, CARRY 1, weight 8", joinsAt(1, 1, 4, 8), 4 * U - U / 4);
        x = yielded();
        x.leave(0);
        x.leave(1);
        due(23, "REST is V", x.time(0), 0);
        due(7, "join(0) with none ON", x.join(0), 1);
        due(7, "v by REST", x.exact(0, 0), 2 * U);
        x = yielded();
        x.leave(1);
        x.leave(0);
        due(23, "REST is V", x.time(0), 4 * U);
        x.join(1);
        due(7, "v by REST", x.exact(1, 0), 2 * U);
    }

    /** 1, 2 and 3 fall back behind 0, which yields and is at U; then they come again, one behind the other. */
    private static void joinBelowZero() {
        DeadlineShare x = joined(1, 1, 8, 1, 7, 1, 8, 1);
        x.yields(0);
        due(22, "LAG of 2 times 24", x.exact(2, 2), 7 * U);
        x.leave(2);
        due(22, "LAG of 3 times 17", x.exact(3, 2), 8 * U);
        x.leave(3);
        due(22, "LAG of 1 times 9", x.exact(1, 2), 8 * U);
        x.leave(1);
        x.weigh(1, 1);
        x.weigh(2, 8);
        x.weigh(3, 1);
        x.join(1);
        due(7, "v of 1: U less 8 U by 9", x.exact(1, 0), U / 9);
        x.leave(0);
        x.join(3);
        due(7, "v of 3: U by 9 less 8 U by 17", x.exact(3, 0), -55 * (U / 153));
        x.leave(1);
        due(23, "V is below 0", x.time(0), -55 * (U / 153));
        x.join(2);
        due(7, "v of 2: that less 7 U by 24 by 8, cut downwards", x.exact(2, 0), Math.floorDiv(-11631 * U, 29376L));
        due(23, "V, cut downwards", x.time(0), Math.floorDiv(-55 * (U / 153) + 8 * x.exact(2, 0), 9L));
        due(23, "and above that", x.time(1), Math.floorMod(-55 * (U / 153) + 8 * x.exact(2, 0), 9L));
        due(24, "eligible()", x.eligible(), 4);
    }

    private static void leave() {
        DeadlineShare x = joined(2, 3, 5, 3);
        due(8, "leave(2)", x.leave(2), -2);
        due(8, "leave(-1)", x.leave(-1), -2);
        due(8, "leave(0)", x.leave(0), 5);
        due(8, "leave(0) again", x.leave(0), -4);
        due(8, "leave(1)", x.leave(1), 0);
        due(8, "of(1, 3)", x.of(1, 3), NONE);
        due(8, "of(1, 7)", x.of(1, 7), NONE);
        script(x, 0, "nap 5,run 2");
        due(8, "of(0, 2): it naps", x.of(0, 2), 2);
        due(8, "leave(0) of one that naps", x.leave(0), 0);
        due(8, "of(0, 2)", x.of(0, 2), 0);
        due(8, "of(0, 9)", x.of(0, 9), NONE);
        due(8, "of(0, 10): no script any more", x.of(0, 10), NONE);
        x.quota(1, 1, 9);
        x.join(1);
        script(x, 1, "run 9");
        x.ticks(1);
        due(8, "of(1, 2): it is throttled", x.of(1, 2), 3);
        due(8, "leave(1) of one that is throttled", x.leave(1), 0);
        due(8, "of(1, 2)", x.of(1, 2), 0);
        due(8, "count(3)", x.count(3), 0);
        due(7, "join(1) that is spent", x.join(1), -4);
        x.ticks(9);
        due(8, "it does not come again", x.of(1, 2), 0);
        due(7, "join(1) not spent any more", x.join(1), 5);
    }

    private static void weigh() {
        DeadlineShare x = joined(8, 4, 8, 4, 1, 4);
        x.task(3, 3);
        due(9, "weigh(9, 0): -1 ahead of -2", x.weigh(9, 0), -1);
        due(9, "weigh(0, 9)", x.weigh(0, 9), -1);
        due(9, "weigh(4, 1)", x.weigh(4, 1), -2);
        due(9, "weigh(0, 8)", x.weigh(0, 8), -4);
        due(9, "weigh(2, 8): 24", x.weigh(2, 8), 1);
        x.undo();
        due(9, "weigh(3, 8) is not ON: no room asked", x.weigh(3, 8), 3);
        x.weigh(3, 1);
        x.join(3);
        due(9, "weigh(2, 8): 25", x.weigh(2, 8), -5);
        due(9, "weigh(2, 7): 24", x.weigh(2, 7), 1);
        due(9, "time(2)", x.time(2), 24);
        x = yielded();
        long lag = x.exact(1, 2);
        due(9, "weigh(1, 2)", x.weigh(1, 2), 1);
        due(9, "v", x.exact(1, 0), U);
        due(9, "V stays", x.time(0), 2 * U);
        due(9, "LAG stays", x.exact(1, 2) * 2, lag * 3);
        due(9, "LEFT stays", x.of(1, 3), 4);
        due(9, "weigh(0, 4)", x.weigh(0, 4), 1);
        due(9, "v", x.exact(0, 0), 2 * U + U / 2);
    }

    private static void weighIsCut() {
        DeadlineShare x = joined(1, 1, 8, 1, 7, 1);
        x.yields(0);
        due(9, "V is U by 16", x.time(0), U / 16);
        x.weigh(1, 1);
        x.undo();
        x.leave(0);
        due(22, "LAG times 16", x.exact(0, 3), U - 16 * U);
        x = joined(1, 1, 1, 1, 7, 1, 7, 1);
        x.yields(0);
        due(9, "weigh(1, 8)", x.weigh(1, 8), 1);
        due(9, "7 U by 128, cut", x.exact(1, 0), 292_809_391L);
        due(23, "V then", x.time(0), (U + 8 * 292_809_391L) / 23);
        due(23, "what V is above that, times W", x.time(1), (U + 8 * 292_809_391L) % 23);
        x.leave(1);
        x.join(1);
        due(7, "V less LAG by WEIGHT, cut once", x.exact(1, 0), joinCutOnce());
    }

    /** The same join with fractions of big numbers. */
    private static long joinCutOnce() {
        long v = 292_809_391L;
        java.math.BigInteger lag = java.math.BigInteger.valueOf(8 * (U + 8 * v - 23 * v));
        java.math.BigInteger by = java.math.BigInteger.valueOf(23 * 8);
        java.math.BigInteger top = java.math.BigInteger.valueOf(U).multiply(by).subtract(lag.multiply(java.math.BigInteger.valueOf(15)));
        java.math.BigInteger[] q = top.divideAndRemainder(by.multiply(java.math.BigInteger.valueOf(15)));
        return q[0].longValueExact() - (q[1].signum() < 0 ? 1 : 0);
    }

    private static void slice() {
        DeadlineShare x = joined(1, 10);
        due(10, "slice(1, 0): -1 ahead of -2", x.slice(1, 0), -1);
        due(10, "slice(0, 21)", x.slice(0, 21), -1);
        due(10, "slice(1, 5)", x.slice(1, 5), -2);
        due(10, "slice(0, 10)", x.slice(0, 10), -4);
        x.ticks(3);
        due(10, "of(0, 3)", x.of(0, 3), 7);
        due(10, "slice(0, 8)", x.slice(0, 8), 10);
        due(10, "LEFT is not above it", x.of(0, 3), 7);
        due(10, "slice(0, 4)", x.slice(0, 4), 8);
        due(10, "LEFT is it at most", x.of(0, 3), 4);
        due(10, "slice(0, 20)", x.slice(0, 20), 4);
        due(10, "LEFT stays", x.of(0, 3), 4);
        due(10, "DEADLINE", x.exact(0, 1), 3 * U + 4 * U);
    }

    private static void wish() {
        DeadlineShare x = joined(2, 10, 3, 10);
        x.task(5, 10);
        due(11, "wish(3, 0): -1 ahead of -2", x.wish(3, 0), -1);
        due(11, "wish(0, 100)", x.wish(0, 100), -1);
        due(11, "wish(3, 9)", x.wish(3, 9), -2);
        due(11, "wish(0, 9): 18 by 5", x.wish(0, 9), 3);
        due(11, "of(0, 1)", x.of(0, 1), 3);
        due(11, "LEFT is it at most", x.of(0, 3), 3);
        due(11, "wish(0, 9) also if it is so", x.wish(0, 9), 3);
        due(11, "wish(0, 1): 1 at least", x.wish(0, 1), 1);
        due(11, "wish(1, 99): 20 at most", x.wish(1, 99), 20);
        due(11, "wish(2, 9): 45 by 10", x.wish(2, 9), 4);
        due(11, "of(2, 1)", x.of(2, 1), 4);
        for (int i = 0; i < 5; i++) due(18, "undo() of a wish", x.undo(), 7);
        due(11, "of(0, 1)", x.of(0, 1), 10);
        x = joined(1, 10);
        due(11, "wish(0, 7) alone", x.wish(0, 7), 7);
        x.leave(0);
        due(11, "wish(0, 20) with none ON", x.wish(0, 20), 20);
    }

    private static void yields() {
        DeadlineShare x = joined(2, 6, 2, 6);
        x.task(1, 1);
        due(12, "yields(3)", x.yields(3), -2);
        due(12, "yields(2)", x.yields(2), -4);
        x.ticks(1);
        due(12, "yields(0)", x.yields(0), 5);
        due(12, "v is DEADLINE", x.exact(0, 0), U / 2 + 5 * U / 2);
        due(12, "LEFT is SLICE", x.of(0, 3), 6);
        due(12, "no REQUEST is served", x.of(0, 5), 0);
        due(12, "undo()", x.undo(), 8);
        due(12, "of(0, 3)", x.of(0, 3), 5);
    }

    private static void quota() {
        DeadlineShare x = joined(1, 5);
        due(13, "quota(1, 51, 60): -1 ahead of -2", x.quota(1, 51, 60), -1);
        due(13, "quota(0, -1, 5)", x.quota(0, -1, 5), -1);
        due(13, "quota(0, 3, 3)", x.quota(0, 3, 3), -1);
        due(13, "quota(0, 1, 1)", x.quota(0, 1, 1), -1);
        due(13, "quota(0, 3, 61)", x.quota(0, 3, 61), -1);
        due(13, "quota(1, 3, 4)", x.quota(1, 3, 4), -2);
        due(13, "quota(0, 50, 60)", x.quota(0, 50, 60), NONE);
        due(13, "of(0, 12)", x.of(0, 12), 50);
        due(13, "of(0, 13)", x.of(0, 13), 50);
        due(13, "of(0, 14)", x.of(0, 14), 60);
        x.ticks(2);
        due(13, "quota(0, 3, 4): BUDGET was", x.quota(0, 3, 4), 48);
        due(13, "of(0, 12)", x.of(0, 12), 3);
        due(13, "quota(0, 0, -77): PERIOD is not asked", x.quota(0, 0, -77), 3);
        due(13, "of(0, 12)", x.of(0, 12), NONE);
        due(13, "of(0, 13)", x.of(0, 13), 0);
        due(13, "of(0, 14)", x.of(0, 14), 0);
        due(13, "quota(0, 0, 0)", x.quota(0, 0, 0), NONE);
        due(13, "quota(0, 1, 2)", x.quota(0, 1, 2), NONE);
        due(13, "of(0, 12)", x.of(0, 12), 1);
        due(37, "status()", x.status(), 0);
    }

    private static void throttle() {
        DeadlineShare x = joined(1, 5);
        x.quota(0, 2, 5);
        due(17, "ticks(10): 2 of each 5", x.ticks(10), 4);
        dueText(27, "ran", whoRan(x, 0, 10), "00...00...");
        due(17, "of(0, 2)", x.of(0, 2), 3);
        due(13, "quota(0, 0, 0) frees it", x.quota(0, 0, 0), 0);
        due(13, "not at once", x.of(0, 2), 3);
        due(17, "ticks(1)", x.ticks(1), 1);
        due(13, "but in the next TICK", x.of(0, 2), 1);
        x = new DeadlineShare();
        x.task(8, 5);
        x.quota(0, 1, 3);
        x.join(0);
        x.ticks(1);
        due(17, "throttled", x.of(0, 2), 3);
        for (int i = 1; i <= 3; i++) {
            x.task(8, 5);
            x.join(i);
        }
        x.ticks(4);
        due(17, "without room it stays throttled", x.of(0, 2), 3);
        due(17, "though BUDGET is there", x.of(0, 12), 1);
        x.leave(1);
        x.ticks(1);
        due(17, "with room it joins", x.time(2), 24);
        x = joined(1, 3);
        x.quota(0, 2, 4);
        script(x, 0, "run 2,nap 1,run 5");
        x.ticks(2);
        due(17, "it naps and is spent", x.of(0, 2), 2);
        due(14, "script() of one that naps", script(x, 0, "run 1"), -4);
        due(17, "of(0, 9)", x.of(0, 9), 3);
        x.ticks(2);
        due(17, "spent: it naps till TIME and 1 more", x.of(0, 9), 4);
        x.ticks(1);
        due(17, "not spent any more: it runs", x.of(0, 2), 1);
        due(17, "of(0, 11)", x.of(0, 11), 4);
        x.ticks(1);
        due(17, "throttled in a run", x.of(0, 2), 3);
        due(17, "its script stays", x.of(0, 10), 2);
        due(17, "of(0, 11)", x.of(0, 11), 3);
        due(14, "script() of one that is throttled", script(x, 0, "run 1"), -4);
        due(32, "finish(0)", x.finish(0), 7);
    }

    private static void script() {
        DeadlineShare x = new DeadlineShare();
        x.task(1, 5);
        x.task(2, 5);
        due(14, "script(0)", script(x, 0, "run 2,nap 3,again 1"), 3);
        due(14, "the TAPE is empty then", x.count(7), 0);
        due(14, "it is ON", x.of(0, 2), 1);
        due(14, "of(0, 10)", x.of(0, 10), 0);
        due(14, "of(0, 11)", x.of(0, 11), 2);
        x.ticks(1);
        due(14, "of(0, 11)", x.of(0, 11), 1);
        x.ticks(1);
        due(14, "it naps", x.of(0, 2), 2);
        due(14, "till", x.of(0, 9), 5);
        due(14, "of(0, 10)", x.of(0, 10), 1);
        due(14, "of(0, 11)", x.of(0, 11), NONE);
        x.ticks(9);
        dueText(14, "ran", whoRan(x, 0, 11), "00...00....");
        due(14, "no script any more", x.of(0, 10), NONE);
        due(14, "it left", x.of(0, 2), 0);
        due(14, "script(1): nap at once", script(x, 1, "nap 4,run 1"), 2);
        due(14, "till TIME and n", x.of(1, 9), 15);
        x.ticks(5);
        due(14, "ran(15)", x.ran(15), 1);
        due(14, "script(0)", script(x, 0, "run 5"), 1);
        x.ticks(2);
        due(14, "of(0, 11)", x.of(0, 11), 3);
        long v = x.exact(0, 0);
        due(14, "script(0) of one that is ON", script(x, 0, "slice 4,run 9"), 2);
        due(14, "it stays ON", x.exact(0, 0), v);
        due(14, "what held it does not", x.of(0, 11), 9);
        due(14, "of(0, 10)", x.of(0, 10), 1);
        due(14, "LEFT", x.of(0, 3), 3);
        due(18, "undo()", x.undo(), 5);
        due(18, "of(0, 11)", x.of(0, 11), 3);
        due(18, "of(0, 1)", x.of(0, 1), 5);
    }

    private static void scriptRefused() {
        DeadlineShare x = joined(8, 1, 8, 1, 8, 1);
        x.task(1, 1);
        due(14, "script(4)", script(x, 4, "run 1"), -2);
        due(14, "the TAPE stays", x.count(7), 5);
        due(14, "script(3): no room", script(x, 3, "?"), -5);
        due(14, "the TAPE stays", x.count(7), 1);
        due(16, "no FAULT by these", x.fault(), NONE);
        due(14, "script(0)", script(x, 0, "run 1,?"), -6);
        due(14, "the TAPE is empty", x.count(7), 0);
        due(16, "fault()", x.fault(), 6);
        due(14, "no script", x.of(0, 10), NONE);
        due(14, "script(4)", script(x, 4, "run 1"), -2);
        due(16, "fault() stays", x.fault(), 6);
        due(14, "script(0)", script(x, 0, "run 1"), 1);
        due(16, "fault()", x.fault(), NONE);
        x = joined(1, 1);
        x.quota(0, 1, 60);
        x.ticks(1);
        x.leave(0);
        due(14, "script(0): OFF and spent", script(x, 0, "run 1"), -4);
        due(14, "the TAPE stays", x.count(7), 5);
        due(14, "-4 stands in status()", x.status(), -4);
    }

    private static void scriptSteps() {
        DeadlineShare x = new DeadlineShare();
        x.task(1, 5);
        due(14, "steps that hold nothing", script(x, 0, "weigh 3,slice 2,again 9"), 3);
        due(14, "of(0, 0)", x.of(0, 0), 3);
        due(14, "of(0, 1)", x.of(0, 1), 2);
        due(14, "it left", x.of(0, 2), 0);
        due(14, "count(3)", x.count(3), 0);
        due(14, "count(1)", x.count(1), 0);
        due(14, "script(0)", script(x, 0, "run 1,again 2,run 2,again 1,again 3,run 1"), 6);
        due(32, "finish(0): 3 and 4 and 1", x.finish(0), 8);
        x.ticks(7);
        due(14, "of(0, 10)", x.of(0, 10), 5);
        x.ticks(1);
        due(14, "of(0, 10)", x.of(0, 10), NONE);
        due(14, "an again first", script(x, 0, "again 3,run 2"), 2);
        due(32, "finish(0)", x.finish(0), 2);
        x.leave(0);
        due(14, "script(0)", script(x, 0, "run 1,weigh 6,slice 7,run 1"), 4);
        x.ticks(1);
        due(14, "weigh behind a run", x.of(0, 0), 6);
        due(14, "slice behind a run", x.of(0, 1), 7);
        x.ticks(1);
        due(14, "naps in a row", script(x, 0, "nap 2,nap 3,run 1"), 3);
        int t = (int) x.time(3);
        x.ticks(6);
        dueText(14, "ran", whoRan(x, t, t + 6), ".....0");
        due(14, "eight steps", script(x, 0, "run 1,run 1,run 1,run 1,run 1,run 1,run 1,run 1"), 8);
        due(32, "finish(0)", x.finish(0), 8);
        due(14, "from an ON one: naps", script(x, 0, "run 1,nap 99"), 2);
        x.ticks(1);
        due(21, "of(0, 9): the TIME that comes and 99", x.of(0, 9), x.time(3) + 99);
    }

    private static void scriptWithoutRoom() {
        DeadlineShare x = joined(8, 2, 8, 2, 1, 2);
        due(14, "script(2)", script(x, 2, "weigh 8,weigh 7,nap 2,run 1"), 4);
        due(14, "24 is room enough", x.of(2, 0), 7);
        x.task(7, 2);
        due(7, "join(3)", x.join(3), 23);
        x.ticks(2);
        x.ticks(1);
        due(17, "no room to wake", x.of(2, 2), 2);
        due(17, "till TIME and 1 more", x.of(2, 9), 3);
        x.ticks(1);
        due(17, "and again", x.of(2, 9), 4);
        x.leave(3);
        x.ticks(1);
        due(17, "it wakes", x.of(2, 2), 1);
        x = joined(8, 2, 8, 2, 8, 2);
        x.weigh(0, 1);
        due(14, "script(0)", script(x, 0, "run 1,weigh 8,run 1"), 3);
        x.task(1, 1);
        x.join(3);
        for (int i = 0; i < 60 && x.of(0, 4) == 0; i++) x.ticks(1);
        due(14, "it ran once", x.of(0, 4), 1);
        due(14, "without room it stays as it is", x.of(0, 0), 1);
        due(14, "and goes on", x.of(0, 10), 2);
    }

    private static void listing() {
        DeadlineShare x = new DeadlineShare();
        x.task(1, 5);
        due(15, "listing(1)", x.listing(1), -2);
        due(15, "listing(0)", x.listing(0), -4);
        due(14, "script(0)", script(x, 0, "  run   07 ,nap10,weigh 8, slice20 ,again 9  "), 5);
        x.feed(1, 1, 1, 1, 1);
        due(15, "listing(0)", x.listing(0), 37);
        dueText(15, "the TAPE", onTape(x), "run 7,nap 10,weigh 8,slice 20,again 9");
        due(14, "it can be read again", x.script(0), 5);
        due(15, "no act", x.undo(), 5);
    }

    private static void faultAt(String text, int place) {
        DeadlineShare x = new DeadlineShare();
        x.task(1, 5);
        int answer = script(x, 0, text);
        due(16, "script(\"" + text + "\") is read", answer >= 0 ? 1 : 0, place == NONE ? 1 : 0);
        due(16, "fault of \"" + text + "\"", x.fault(), place);
        due(14, "of(0, 10) of \"" + text + "\"", x.of(0, 10) == NONE ? 1 : 0, place == NONE ? 0 : 1);
    }

    private static void fault() {
        String eight = "run 1,run 1,run 1,run 1,run 1,run 1,run 1,run 1";
        String[] texts = {"", "   ", "run", "run ", "run 0", "run 00", "run 100", "nap 100", "weigh 9", "slice 21", "again 10",
            "again 0", "runs 1", "ru", "xun 1", "Run 1", "run 1 2", "run 1;nap 1", "run 1,,nap 1", ",run 1", "run 1,nap 1,",
            "run 1,nap 1, ", "run 1 nap 1", "run 99999999999999999999", "run 4294967297", "ru n 1", "run -1", "run 1,4", "5",
            "run run", "run,1", "  walk 1", "run 1, run" + (char) 233 + " 2", eight + ",run 1", eight + ", x", eight + ",", eight + " 4", "run 1\t"};
        int[] places = {0, 3, 3, 4, 4, 4, 4, 4, 6, 6, 6,
            6, 0, 0, 0, 0, 6, 5, 6, 0, 12,
            13, 6, 4, 4, 0, 4, 6, 0,
            4, 3, 2, 10, 48, 49, 48, 48, 5};
        for (int i = 0; i < texts.length; i++) faultAt(texts[i], places[i]);
        for (String text : new String[] {"run 1", "run 99", "run99,nap 1", " run 5 ", "run 1,weigh 8,run 1", "run 0000001", eight, eight + "  "}) {
            faultAt(text, NONE);
        }
    }

    private static void ticks() {
        DeadlineShare x = new DeadlineShare();
        due(17, "ticks(0)", x.ticks(0), -1);
        due(17, "ticks(61)", x.ticks(61), -1);
        due(17, "ticks(-1)", x.ticks(-1), -1);
        due(17, "ticks(60), all IDLE", x.ticks(60), 0);
        due(23, "time(3)", x.time(3), 60);
        due(23, "time(0)", x.time(0), 0);
        x = joined(1, 1, 2, 1, 3, 1);
        due(17, "ticks(12)", x.ticks(12), 12);
        dueText(17, "ran", whoRan(x, 0, 12), "212012212012");
        due(28, "service(0)", x.service(0, 0, 12), 2);
        due(28, "service(1)", x.service(1, 0, 12), 4);
        due(28, "service(2)", x.service(2, 0, 12), 6);
        due(21, "SERVED", x.of(2, 4), 6);
        due(21, "REQUESTS", x.of(2, 5), 6);
        x = joined(1, 4, 1, 4);
        x.ticks(8);
        dueText(17, "like ones by numbers; not eligible ones wait", whoRan(x, 0, 8), "01010101");
        due(21, "REQUESTS", x.of(0, 5), 1);
        x = joined(1, 5, 1, 1);
        x.ticks(6);
        dueText(17, "the first DEADLINE", whoRan(x, 0, 6), "101010");
    }

    private static void ticksByMode() {
        DeadlineShare x = new DeadlineShare();
        x.terms(0, 1);
        x.task(1, 3);
        x.task(1, 3);
        x.join(0);
        x.join(1);
        x.ticks(7);
        dueText(17, "MODE 1", whoRan(x, 0, 7), "0001110");
        x.yields(0);
        due(31, "not behind a yield", x.ahead(1), 1);
        due(18, "undo()", x.undo(), 8);
        due(31, "as it was", x.ahead(1), 0);
        x.leave(0);
        x.join(0);
        due(31, "not behind a leave", x.ahead(1), 1);
        x.undo();
        x.undo();
        due(31, "as it was", x.ahead(1), 0);
        x.terms(0, 0);
        due(31, "MODE 0", x.ahead(1), 1);
        x.terms(0, 1);
        x.image(0);
        x.ticks(1);
        x.slice(0, 1);
        due(31, "a slice ends no REQUEST", x.ahead(1), 0);
        due(31, "it ends then", x.ahead(2), 1);
        x.back(0);
        due(31, "as in the image", x.ahead(2), 0);
        x = new DeadlineShare();
        x.terms(0, 1);
        x.task(1, 9);
        x.task(1, 9);
        x.join(1);
        script(x, 0, "run 2,nap 1,run 4");
        x.ticks(6);
        dueText(17, "a nap ends it", whoRan(x, 0, 6), "001111");
    }

    private static void ticksToTheEnd() {
        DeadlineShare x = joined(1, 20);
        script(x, 0, "run 99,again 9,run 99,again 9,run 99,again 9");
        for (int i = 0; i < 166; i++) x.ticks(60);
        due(17, "time(3)", x.time(3), 9960);
        due(17, "ticks(40): TIME would be 10,000", x.ticks(40), -4);
        due(17, "ticks(61): -1 ahead of -4", x.ticks(61), -1);
        due(31, "ahead(39)", x.ahead(39), NONE);
        script(x, 0, "run 30,nap 5,run 9");
        due(31, "ahead(30)", x.ahead(30), 0);
        due(31, "ahead(36)", x.ahead(36), 0);
        due(31, "ahead(40)", x.ahead(40), NONE);
        due(32, "finish(0) is not by then", x.finish(0), NONE);
        due(33, "due(0)", x.due(0), 20);
        script(x, 0, "run 39,run 1");
        due(32, "finish(0): not past TIME 9,999", x.finish(0), NONE);
        script(x, 0, "run 39");
        due(32, "finish(0): up to TIME 9,999", x.finish(0), 39);
        script(x, 0, "run 30,nap 5,run 9");
        due(34, "least(0, 1, 40)", x.least(0, 1, 40), NONE);
        due(34, "least(0, 34, 39)", x.least(0, 34, 39), 1);
        due(35, "would(0, 40, 3)", x.would(0, 40, 3), REFUSED_ON_PAPER);
        due(35, "would(0, 39, 3)", x.would(0, 39, 3), 5);
        due(17, "ticks(39)", x.ticks(39), 34);
        due(17, "ticks(1)", x.ticks(1), -4);
        due(31, "ahead(1)", x.ahead(1), NONE);
        due(32, "finish(0)", x.finish(0), NONE);
        due(33, "due(0)", x.due(0), NONE);
        due(34, "least(0, 0, 1)", x.least(0, 0, 1), NONE);
        due(35, "would(0, 1, 3)", x.would(0, 1, 3), REFUSED_ON_PAPER);
        due(27, "ran(9998)", x.ran(9998), 0);
        due(27, "ran(9999)", x.ran(9999), NONE);
        x = joined(1, 20);
        for (int i = 0; i < 166; i++) x.ticks(60);
        x.ticks(20);
        due(33, "due(0): not past TIME 9,999", x.due(0), NONE);
        x.slice(0, 19);
        due(33, "due(0): up to TIME 9,999", x.due(0), 19);
    }

    private static void waits() {
        DeadlineShare x = joined(1, 2, 3, 2);
        x.ticks(2);
        dueText(17, "ran", whoRan(x, 0, 2), "10");
        due(21, "WAIT of the one that ran", x.of(0, 7), 0);
        due(21, "WAIT of the other", x.of(1, 7), 1);
        x.ticks(3);
        dueText(17, "ran", whoRan(x, 2, 5), "111");
        due(21, "WAIT", x.of(0, 7), 3);
        due(21, "LONGEST", x.of(0, 8), 3);
        x.ticks(1);
        due(21, "WAIT", x.of(0, 7), 0);
        due(21, "LONGEST stays", x.of(0, 8), 3);
        x.ticks(1);
        x.leave(0);
        due(21, "WAIT of one that is OFF", x.of(0, 7), NONE);
        x.join(0);
        due(21, "WAIT when it joins", x.of(0, 7), 0);
        x = joined(1, 20, 8, 20);
        for (int i = 0; i < 60; i++) x.yields(0);
        for (int i = 0; i < 17; i++) x.ticks(60);
        due(21, "999 at most", x.of(0, 7), 999);
        due(21, "LONGEST", x.of(0, 8), 999);
    }

    private static void late() {
        DeadlineShare x = joined(1, 1);
        x.ticks(3);
        due(21, "alone it is never late", x.of(0, 6), 0);
        x = joined(1, 1, 1, 10);
        x.yields(1);
        x.ticks(1);
        due(21, "REQUESTS", x.of(0, 5), 1);
        due(21, "v is below V: LATE", x.of(0, 6), 1);
        x.ticks(3);
        due(21, "LATE", x.of(0, 6), 4);
        x.ticks(1);
        due(23, "V is 15 U by 2", x.time(0), 15 * U / 2);
        due(21, "LATE", x.of(0, 6), 5);
        x.ticks(5);
        due(21, "v like V is not late", x.of(0, 6), 9);
        due(21, "REQUESTS", x.of(0, 5), 10);
        x = joined(1, 1, 1, 1, 8, 1);
        x.weigh(2, 7);
        x.ticks(1);
        int[][] weighs = {{2, 6}, {1, 6}, {1, 1}};
        for (int[] w : weighs) x.weigh(w[0], w[1]);
        x.yields(0);
        x.weigh(2, 5);
        x.leave(2);
        x.ticks(1);
        due(22, "V is above v by a half of 1", x.exact(1, 2), 1);
        due(21, "LATE by the least", x.of(1, 6), 1);
    }

    private static void undo() {
        DeadlineShare x = new DeadlineShare();
        x.task(2, 5);
        x.join(0);
        x.weigh(0, 3);
        x.slice(0, 6);
        script(x, 0, "run 9");
        x.ticks(4);
        x.wish(0, 2);
        x.yields(0);
        x.quota(0, 2, 9);
        x.leave(0);
        int[] acts = {2, 9, 8, 7, 6, 5, 4, 3, 1, 0};
        int[] state = {1, 1, 1, 1, 1, 1, 1, 1, 0, NONE};
        int[] weight = {3, 3, 3, 3, 3, 3, 3, 2, 2, NONE};
        int[] slice = {2, 2, 2, 6, 6, 6, 5, 5, 5, NONE};
        int[] budget = {2, NONE, NONE, NONE, NONE, NONE, NONE, NONE, NONE, NONE};
        int[] run = {5, 5, 5, 5, 9, NONE, NONE, NONE, NONE, NONE};
        int[] served = {4, 4, 4, 4, 0, 0, 0, 0, 0, NONE};
        due(36, "count(6)", x.count(6), 10);
        x.join(99);
        for (int i = 0; i < 10; i++) {
            due(18, "undo()", x.undo(), acts[i]);
            due(18, "of(0, 2)", x.of(0, 2), state[i]);
            due(18, "of(0, 0)", x.of(0, 0), weight[i]);
            due(18, "of(0, 1)", x.of(0, 1), slice[i]);
            due(18, "of(0, 12)", x.of(0, 12), budget[i]);
            due(18, "of(0, 11)", x.of(0, 11), run[i]);
            due(18, "of(0, 4)", x.of(0, 4), served[i]);
            due(18, "time(3)", x.time(3), i < 4 ? 4 : 0);
            due(18, "count(5)", x.count(5), i < 4 ? 4 : 0);
            due(18, "count(4)", x.count(4), i < 4 ? 0 : NONE);
            due(36, "count(6)", x.count(6), 9 - i);
        }
        due(18, "undo()", x.undo(), -4);
        due(18, "what was REFUSED stays told", x.count(9), 1);
        due(18, "task() behind it is new", x.task(1, 1), 0);
        due(18, "of(0, 4)", x.of(0, 4), 0);
        due(18, "exact(0, 3)", x.exact(0, 3), 0);
        undoAll();
    }

    /** Everything that can be told is as it was, behind undo() and behind back(). */
    private static void undoAll() {
        String before = all(busy());
        DeadlineShare x = busy();
        x.ticks(7);
        x.leave(1);
        x.ticks(60);
        x.join(1);
        x.yields(1);
        for (int i = 0; i < 5; i++) x.undo();
        dueText(18, "all is as it was", all(x), before);
        x = busy();
        for (int t = 0; t < 3; t++) x.leave(t);
        x.ticks(60);
        for (int i = 0; i < 4; i++) x.undo();
        dueText(18, "all is as it was", all(x), before);
        x = busy();
        x.image(1);
        x.ticks(60);
        x.leave(1);
        x.join(1);
        x.leave(0);
        x.back(1);
        dueText(20, "all is as it was", all(x), before);
        nothingOfOneThatIsGone();
    }

    private static DeadlineShare busy() {
        DeadlineShare x = joined(1, 2, 3, 4, 2, 3);
        script(x, 0, "run 2,nap 30,run 5");
        x.quota(2, 2, 30);
        x.yields(1);
        x.ticks(40);
        x.ticks(9);
        return x;
    }

    private static void nothingOfOneThatIsGone() {
        DeadlineShare y = new DeadlineShare();
        y.image(0);
        y.task(8, 20);
        y.quota(0, 1, 3);
        y.join(0);
        script(y, 0, "run 2,nap 1,run 9");
        y.ticks(20);
        y.back(0);
        y.task(8, 20);
        DeadlineShare z = new DeadlineShare();
        z.task(8, 20);
        dueText(6, "a new task has nothing of one that is gone", all(y), all(z));
        y.join(0);
        z.join(0);
        dueText(6, "nor when it joins", all(y), all(z));
    }

    private static void undoTen() {
        DeadlineShare x = joined(1, 3, 2, 3);
        for (int i = 0; i < 14; i++) x.ticks(60);
        due(36, "count(6)", x.count(6), 10);
        for (int i = 0; i < 10; i++) due(18, "undo()", x.undo(), 6);
        due(18, "no 11th", x.undo(), -4);
        due(18, "time(3)", x.time(3), 240);
        DeadlineShare y = joined(1, 3, 2, 3);
        for (int i = 0; i < 4; i++) y.ticks(60);
        dueText(18, "the LOG is as it was", whoRan(x, 100, 241), whoRan(y, 100, 241));
        due(18, "terms are not undone", x.terms(0, 1), 0);
        x.ticks(1);
        x.terms(1, 2);
        x.feed(1, 2, 3, 4, 5);
        due(18, "undo()", x.undo(), 6);
        due(18, "count(13)", x.count(13), 1);
        due(18, "count(14)", x.count(14), 2);
        due(18, "count(7)", x.count(7), 20);
    }

    private static void images() {
        DeadlineShare x = joined(1, 3, 2, 3);
        due(19, "image(2)", x.image(2), -1);
        due(19, "image(-1)", x.image(-1), -1);
        due(20, "back(2)", x.back(2), -1);
        due(20, "back(1)", x.back(1), -4);
        x.ticks(5);
        due(19, "image(1)", x.image(1), 5);
        long v = x.exact(1, 0);
        String ran = whoRan(x, 0, 5);
        due(19, "undo() goes on", x.undo(), 6);
        due(19, "image(0)", x.image(0), 0);
        x.terms(1, 3);
        x.ticks(60);
        x.ticks(60);
        x.ticks(60);
        x.task(1, 1);
        x.leave(1);
        due(20, "back(1)", x.back(1), 5);
        due(20, "nothing can be undone", x.undo(), -4);
        due(20, "count(6)", x.count(6), 0);
        due(20, "of(1, 2)", x.of(1, 2), 1);
        due(20, "exact(1, 0)", x.exact(1, 0), v);
        due(20, "count(0)", x.count(0), 2);
        due(20, "TERMS stay", x.count(14), 3);
        dueText(20, "ran", whoRan(x, 0, 6), ran + ".");
        x.ticks(9);
        due(20, "back(0)", x.back(0), 0);
        due(20, "count(5)", x.count(5), 0);
        due(20, "count(4)", x.count(4), NONE);
        due(20, "back(1) once more", x.back(1), 5);
        x.yields(0);
        due(18, "undo()", x.undo(), 8);
        due(18, "undo() not past the back()", x.undo(), -4);
    }

    private static void of() {
        DeadlineShare x = new DeadlineShare();
        x.task(3, 7);
        int[] off = {3, 7, 0, NONE, 0, 0, 0, NONE, 0, NONE, NONE, NONE, NONE, 0, 0};
        for (int k = 0; k < off.length; k++) due(21, "of(0, " + k + ") OFF", x.of(0, k), off[k]);
        x.quota(0, 9, 20);
        x.join(0);
        script(x, 0, "run 8,nap 3");
        x.ticks(7);
        int[] on = {3, 7, 1, 7, 7, 1, 0, 0, 0, NONE, 0, 1, 2, 9, 20};
        for (int k = 0; k < on.length; k++) due(21, "of(0, " + k + ") ON", x.of(0, k), on[k]);
        x.ticks(1);
        int[] naps = {3, 7, 2, NONE, 8, 1, 0, NONE, 0, 11, 1, NONE, 1, 9, 20};
        for (int k = 0; k < naps.length; k++) due(21, "of(0, " + k + ") NAPPING", x.of(0, k), naps[k]);
        due(21, "of(0, 15)", x.of(0, 15), NONE);
        due(21, "of(0, -1)", x.of(0, -1), NONE);
        due(21, "of(1, 0)", x.of(1, 0), NONE);
        due(21, "of(-1, 0)", x.of(-1, 0), NONE);
        due(21, "others are not REFUSED", x.count(8) + x.count(9), 0);
    }

    private static void exactAndTime() {
        DeadlineShare x = joined(1, 3, 2, 5);
        x.ticks(2);
        dueText(17, "ran", whoRan(x, 0, 2), "10");
        due(22, "exact(0, 0)", x.exact(0, 0), U);
        due(22, "exact(0, 1)", x.exact(0, 1), 3 * U);
        due(22, "exact(0, 2)", x.exact(0, 2), 2 * U - 3 * U);
        due(22, "exact(1, 0)", x.exact(1, 0), U / 2);
        due(22, "exact(1, 1)", x.exact(1, 1), U / 2 + 2 * U);
        due(22, "exact(1, 2)", x.exact(1, 2), 2 * (2 * U - 3 * U / 2));
        due(22, "exact(1, 3) of one that is ON", x.exact(1, 3), NOTHING);
        due(22, "exact(0, 4)", x.exact(0, 4), NOTHING);
        due(22, "exact(0, -1)", x.exact(0, -1), NOTHING);
        due(22, "exact(2, 0)", x.exact(2, 0), NOTHING);
        due(23, "time(0)", x.time(0), 2 * U / 3);
        due(23, "time(1)", x.time(1), 0);
        due(23, "time(2)", x.time(2), 3);
        due(23, "time(3)", x.time(3), 2);
        due(23, "time(4)", x.time(4), NOTHING);
        due(23, "time(-1)", x.time(-1), NOTHING);
        x.leave(1);
        due(22, "exact(1, 3)", x.exact(1, 3), U);
        for (int k = 0; k < 3; k++) due(22, "exact(1, " + k + ") of one that is OFF", x.exact(1, k), NOTHING);
        due(23, "time(0)", x.time(0), U);
        x.task(1, 1);
        due(22, "exact(2, 3): it never left", x.exact(2, 3), 0);
    }

    private static void orders() {
        DeadlineShare x = joined(1, 9, 1, 3, 1, 6, 1, 3);
        due(24, "eligible()", x.eligible(), 15);
        int[] first = {1, 3, 2, 0};
        for (int k = 0; k < 4; k++) due(25, "earliest(" + k + ")", x.earliest(k), first[k]);
        due(25, "earliest(4)", x.earliest(4), NONE);
        due(25, "earliest(-1)", x.earliest(-1), NONE);
        for (int k = 0; k < 4; k++) due(26, "rank(" + k + ")", x.rank(k), k);
        x.ticks(1);
        due(24, "eligible()", x.eligible(), 13);
        due(25, "earliest(0)", x.earliest(0), 3);
        due(25, "earliest(3)", x.earliest(3), NONE);
        due(26, "rank(1)", x.rank(1), 3);
        due(26, "rank(0)", x.rank(0), 0);
        due(26, "rank(3)", x.rank(3), 2);
        x.leave(0);
        due(26, "rank(0) of one that is OFF", x.rank(0), NONE);
        due(26, "rank(4)", x.rank(4), NONE);
        due(26, "rank(-1)", x.rank(-1), NONE);
        due(26, "rank(2)", x.rank(2), 0);
        due(24, "eligible()", x.eligible(), 12);
    }

    private static void log() {
        DeadlineShare x = joined(1, 1, 3, 1);
        x.ticks(4);
        x.leave(0);
        x.ticks(2);
        x.leave(1);
        x.ticks(2);
        dueText(27, "ran", whoRan(x, -1, 9), ".101111...");
        due(27, "ran(-1)", x.ran(-1), NONE);
        due(27, "ran(6): IDLE", x.ran(6), NONE);
        due(27, "ran(8)", x.ran(8), NONE);
        due(28, "service(0, 0, 8)", x.service(0, 0, 8), 1);
        due(28, "service(1, 0, 8)", x.service(1, 0, 8), 5);
        due(28, "service(1, 4, 6)", x.service(1, 4, 6), 2);
        due(28, "service(1, 6, 6)", x.service(1, 6, 6), 0);
        due(28, "service(1, 77777, 77777)", x.service(1, 77777, 77777), 0);
        due(28, "service(1, -5, -5)", x.service(1, -5, -5), 0);
        due(28, "service(2, 1, 1)", x.service(2, 1, 1), NONE);
        due(28, "service(1, 0, 9)", x.service(1, 0, 9), NONE);
        due(28, "service(1, -1, 4)", x.service(1, -1, 4), NONE);
        due(28, "service(1, 5, 4)", x.service(1, 5, 4), NONE);
        due(28, "service(1, MIN, MAX)", x.service(1, Integer.MIN_VALUE, Integer.MAX_VALUE), NONE);
        due(29, "share(0, 0, 8)", x.share(0, 0, 8), U);
        due(29, "share(1, 0, 8)", x.share(1, 0, 8), 3 * U + 2 * U);
        due(29, "share(0, 4, 8)", x.share(0, 4, 8), 0);
        due(29, "share(0, 1, 2)", x.share(0, 1, 2), U / 4);
        due(29, "share(0, -9, -9)", x.share(0, -9, -9), 0);
        due(29, "share(2, 0, 0)", x.share(2, 0, 0), NOTHING);
        due(29, "share(0, 0, 9)", x.share(0, 0, 9), NOTHING);
        due(29, "share(0, 3, 2)", x.share(0, 3, 2), NOTHING);
        due(29, "share(0, -1, 2)", x.share(0, -1, 2), NOTHING);
        x.weigh(1, 8);
        due(29, "a weight of now is not asked", x.share(1, 0, 4), 3 * U);
    }

    private static void logIsShort() {
        DeadlineShare x = joined(1, 1, 1, 1);
        x.ticks(60);
        x.ticks(60);
        x.ticks(8);
        due(36, "count(5)", x.count(5), 128);
        due(27, "ran(0)", x.ran(0), 0);
        x.ticks(1);
        due(36, "count(5)", x.count(5), 128);
        due(27, "ran(0) is not kept", x.ran(0), NONE);
        due(27, "ran(1)", x.ran(1), 1);
        due(28, "service(0, 0, 9)", x.service(0, 0, 9), NONE);
        due(28, "service(0, 1, 129)", x.service(0, 1, 129), 64);
        due(29, "share(0, 0, 9)", x.share(0, 0, 9), NOTHING);
        due(29, "share(0, 1, 129)", x.share(0, 1, 129), 64 * U);
        x.leave(0);
        x.leave(1);
        x.ticks(60);
        x.ticks(60);
        x.ticks(8);
        due(30, "worst(0, 0): not ON in any TICK of the LOG", x.worst(0, 0), NOTHING);
        due(36, "count(4): IDLE ones aside", x.count(4), 0);
    }

    private static void worst() {
        DeadlineShare x = joined(1, 1, 1, 1);
        due(30, "worst(0, 0): no window", x.worst(0, 0), NOTHING);
        due(30, "worst(0, 1): no window", x.worst(0, 1), NOTHING);
        x.yields(0);
        x.yields(0);
        x.yields(0);
        x.ticks(3);
        dueText(30, "ran", whoRan(x, 0, 3), "111");
        due(30, "worst(1, 0)", x.worst(1, 0), 3 * U / 2);
        due(30, "worst(1, 1)", x.worst(1, 1), U / 2);
        due(30, "worst(0, 0): one TICK at least", x.worst(0, 0), -U / 2);
        due(30, "worst(0, 1)", x.worst(0, 1), -3 * U / 2);
        x.leave(0);
        x.ticks(1);
        x.terms(1, 0);
        x.join(0);
        x.ticks(1);
        dueText(30, "ran", whoRan(x, 3, 5), "10");
        due(30, "worst(0, 1): not over TICKS in which it was OFF", x.worst(0, 1), -3 * U / 2);
        due(30, "worst(0, 0)", x.worst(0, 0), U / 2);
        due(30, "worst(1, 0)", x.worst(1, 0), 3 * U / 2);
        x = joined(1, 1, 1, 1);
        x.terms(1, 0);
        x.ticks(2);
        x.leave(1);
        x.ticks(1);
        x.join(1);
        x.yields(0);
        x.ticks(1);
        dueText(30, "ran", whoRan(x, 0, 4), "0101");
        due(30, "worst(1, 0): no window over TICK 2", x.worst(1, 0), U / 2);
        due(30, "worst(1, 1)", x.worst(1, 1), -U / 2);
        due(30, "worst(0, 2)", x.worst(0, 2), NOTHING);
        due(30, "worst(0, -1)", x.worst(0, -1), NOTHING);
        due(30, "worst(2, 0)", x.worst(2, 0), NOTHING);
        due(30, "worst(-1, 0)", x.worst(-1, 0), NOTHING);
    }

    private static void ahead() {
        DeadlineShare x = joined(1, 1, 1, 1);
        due(31, "ahead(1)", x.ahead(1), 0);
        due(31, "ahead(2)", x.ahead(2), 1);
        due(31, "ahead(60)", x.ahead(60), 1);
        due(31, "ahead(61)", x.ahead(61), NONE);
        due(31, "ahead(0)", x.ahead(0), NONE);
        due(31, "ahead(-3)", x.ahead(-3), NONE);
        x.leave(0);
        x.leave(1);
        due(31, "ahead(5): IDLE", x.ahead(5), NONE);
        due(31, "not REFUSED", x.count(8), 0);
    }

    private static void finishAndDue() {
        DeadlineShare x = joined(1, 2, 1, 3);
        due(32, "finish(0): it has none", x.finish(0), NONE);
        due(32, "finish(2)", x.finish(2), NONE);
        due(32, "finish(-1)", x.finish(-1), NONE);
        script(x, 0, "run 3");
        due(32, "finish(0): 0 1 0 1 1 0", x.finish(0), 6);
        due(33, "due(0)", x.due(0), 3);
        due(33, "due(1)", x.due(1), 5);
        due(33, "due(2)", x.due(2), NONE);
        due(33, "due(-1)", x.due(-1), NONE);
        x.ticks(3);
        due(33, "due(0)", x.due(0), NONE);
        due(33, "due(1)", x.due(1), 2);
        x.leave(1);
        due(33, "due(1) of one that is OFF", x.due(1), NONE);
        x = joined(1, 1);
        script(x, 0, "run 50,again 9");
        due(32, "finish(0) in 500", x.finish(0), 500);
        script(x, 0, "run 50,again 9,run 1");
        due(32, "finish(0) not by then", x.finish(0), NONE);
        x.ticks(1);
        due(32, "finish(0) in 500", x.finish(0), 500);
        x = joined(1, 1);
        x.quota(0, 1, 60);
        x.ticks(1);
        due(33, "due(0) of one that is throttled", x.due(0), 60);
        due(33, "due(0) in 500", napping(99, 4), 500);
        due(33, "due(0) not in 500", napping(99, 5), NONE);
    }

    /** due() of one that naps five times, then runs for a slice. */
    private static int napping(int nap, int slice) {
        DeadlineShare x = new DeadlineShare();
        x.task(1, 1 + slice);
        script(x, 0, "nap " + nap + ",again 4,run 99");
        return x.due(0);
    }

    private static void least() {
        DeadlineShare x = joined(1, 1, 3, 1);
        due(34, "least(0, 5, 10)", x.least(0, 5, 10), 3);
        due(34, "least(0, 0, 10)", x.least(0, 0, 10), 1);
        due(34, "least(0, 10, 10)", x.least(0, 10, 10), NONE);
        due(34, "least(0, 3, 12)", x.least(0, 3, 12), 1);
        due(34, "least(0, 12, 12)", x.least(0, 12, 12), NONE);
        due(34, "least(0, 11, 10)", x.least(0, 11, 10), NONE);
        due(34, "least(0, -1, 10)", x.least(0, -1, 10), NONE);
        due(34, "least(0, 0, 0)", x.least(0, 0, 0), NONE);
        due(34, "least(0, 0, 61)", x.least(0, 0, 61), NONE);
        due(34, "least(0, 0, 60)", x.least(0, 0, 60), 1);
        due(34, "least(2, 0, 5)", x.least(2, 0, 5), NONE);
        due(34, "least(-1, 0, 5)", x.least(-1, 0, 5), NONE);
        due(34, "the weight stays", x.of(0, 0), 1);
        x = joined(1, 1, 8, 1, 8, 1, 6, 1);
        due(34, "those without room aside", x.least(0, 4, 16), NONE);
        due(34, "with weight 2", x.least(0, 2, 24), 2);
        x.task(1, 1);
        due(34, "OFF it runs never", x.least(4, 1, 60), NONE);
        due(34, "OFF, n 0", x.least(4, 0, 60), 1);
        x = joined(1, 1, 1, 1);
        due(34, "least(1, 1, 1): 1 of 1", x.least(1, 1, 1), 2);
        x = joined(1, 1, 8, 1);
        due(34, "least(0, 8, 16): the greatest", x.least(0, 8, 16), 8);
    }

    private static void would() {
        DeadlineShare x = joined(1, 5, 1, 1);
        due(35, "would(-1, 1, 0)", x.would(-1, 1, 0), REFUSED_ON_PAPER);
        due(35, "would(5, 1, 0)", x.would(5, 1, 0), REFUSED_ON_PAPER);
        due(35, "would(0, 0, 0)", x.would(0, 0, 0), REFUSED_ON_PAPER);
        due(35, "would(0, 61, 0)", x.would(0, 61, 0), REFUSED_ON_PAPER);
        due(35, "would(0, 1, 4)", x.would(0, 1, 4), REFUSED_ON_PAPER);
        due(35, "would(0, 1, -1)", x.would(0, 1, -1), REFUSED_ON_PAPER);
        due(35, "would(0, 4, 0): half a UNIT", x.would(0, 4, 0), 50);
        due(35, "would(0, 4, 1)", x.would(0, 4, 1), -50);
        due(35, "would(0, 4, 2): none ran last counts too", x.would(0, 4, 2), 4);
        due(35, "would(0, 4, 3)", x.would(0, 4, 3), 0);
        due(35, "would(1, 3, 2): 0 1 0", x.would(1, 3, 2), 3);
        due(35, "would(2, 4, 2): 1 1 1 1 by DEADLINES", x.would(2, 4, 2), 1);
        due(35, "would(2, 4, 0): task 0 falls back by 2", x.would(2, 4, 0), 200);
        due(35, "would(2, 4, 1)", x.would(2, 4, 1), -200);
        x.ticks(1);
        due(35, "would(3, 3, 2): 0 1 0", x.would(3, 3, 2), 3);
        x.leave(0);
        due(35, "would(3, 3, 2): 1 1 1", x.would(3, 3, 2), 0);
        due(35, "would(3, 3, 3): 1 1 1", x.would(3, 3, 3), 0);
        due(35, "would(4, 3, 3): 1 1 1", x.would(4, 3, 3), 0);
        x.leave(1);
        due(35, "would(3, 7, 3): IDLE", x.would(3, 7, 3), 7);
        due(35, "would(4, 7, 3): IDLE", x.would(4, 7, 3), 7);
        due(35, "would(0, 7, 0)", x.would(0, 7, 0), 0);
        due(35, "would(0, 7, 2)", x.would(0, 7, 2), 0);
        x = joined(1, 1, 1, 1, 1, 1);
        due(35, "would(0, 1, 0): a third, cut", x.would(0, 1, 0), 33);
        due(35, "would(0, 1, 1): two thirds, cut downwards", x.would(0, 1, 1), -67);
        due(35, "would(3, 3, 1): behind TICK 1", x.would(3, 3, 1), -67);
        x = joined(1, 3, 1, 3);
        x.terms(0, 1);
        due(35, "would(0, 6, 2) by MODE 1: 000111", x.would(0, 6, 2), 2);
        due(35, "would(1, 6, 2) does not ask it: 010101", x.would(1, 6, 2), 6);
        x.terms(0, 0);
        x.ticks(2);
        due(35, "would(1, 1, 2): like ones by numbers", x.would(1, 1, 2), 1);
        due(35, "would(2, 1, 2): like ones by numbers", x.would(2, 1, 2), 1);
        x = joined(2, 1, 1, 1);
        due(35, "would(0, 1, 0): WEIGHT times 1 by 3", x.would(0, 1, 0), 33);
        due(35, "would(0, 1, 1): WEIGHT times 1 by 3 less 1 by 2", x.would(0, 1, 1), -34);
    }

    /** Parts of 1, 2 and 4 of W, which is 7. */
    private static void wouldByDraws() {
        for (int seed : new int[] {0, 1, 77, 999_999, 1_000_000}) {
            DeadlineShare x = joined(1, 5, 2, 5, 4, 5);
            x.terms(2, seed);
            long s = seed;
            int last = NONE;
            int changes = 0;
            for (int i = 0; i < 40; i++) {
                s = (1103 * s + 12345) % 1_000_003;
                int part = (int) (s % 7);
                int who = part == 0 ? 0 : part < 3 ? 1 : 2;
                if (who != last) changes++;
                last = who;
            }
            due(35, "would(4, 40, 2), SEED " + seed, x.would(4, 40, 2), changes);
            due(35, "would(4, 40, 2) once more", x.would(4, 40, 2), changes);
        }
    }

    private static String all(DeadlineShare x) {
        StringBuilder b = new StringBuilder();
        for (int t = 0; t < x.count(0); t++) {
            for (int k = 0; k < 15; k++) b.append(x.of(t, k)).append(' ');
            for (int k = 0; k < 4; k++) b.append(x.exact(t, k)).append(' ');
        }
        for (int k = 0; k < 6; k++) b.append(x.count(k)).append(' ');
        for (int k = 0; k < 4; k++) b.append(x.time(k)).append(' ');
        return b.append(x.count(16)).append(' ').append(whoRan(x, 0, 130)).toString();
    }

    private static String allAndTold(DeadlineShare x) {
        StringBuilder b = new StringBuilder(all(x));
        for (int k = 6; k < 16; k++) b.append(' ').append(x.count(k));
        return b.append(' ').append(x.status()).append(' ').append(x.fault()).toString();
    }

    private static DeadlineShare inItsMidst() {
        DeadlineShare x = joined(1, 5, 2, 3, 3, 2);
        script(x, 0, "run 2,nap 3,weigh 2,again 9");
        x.quota(1, 3, 7);
        x.ticks(11);
        x.join(77);
        return x;
    }

    private static void paperChangesNothing() {
        String before = allAndTold(inItsMidst());
        DeadlineShare x = inItsMidst();
        x.ahead(30);
        dueText(31, "ahead(30) changes nothing", allAndTold(x), before);
        x = inItsMidst();
        x.finish(0);
        dueText(32, "finish(0) changes nothing", allAndTold(x), before);
        x = inItsMidst();
        x.due(1);
        dueText(33, "due(1) changes nothing", allAndTold(x), before);
        x = inItsMidst();
        x.least(2, 20, 30);
        dueText(34, "least(2, 20, 30) changes nothing", allAndTold(x), before);
        x = inItsMidst();
        for (int way = 0; way < 5; way++) x.would(way, 30, 0);
        dueText(35, "would(..) changes nothing", allAndTold(x), before);
        x = inItsMidst();
        StringBuilder told = new StringBuilder();
        for (int n = 1; n <= 25; n++) told.append(x.ahead(n) == NONE ? "." : Integer.toString(x.ahead(n)));
        x.ticks(25);
        dueText(31, "what ahead() told", whoRan(x, 11, 36), told.toString());
    }

    private static void count() {
        DeadlineShare x = joined(1, 5, 2, 3);
        x.task(1, 1);
        script(x, 2, "nap 50");
        script(x, 0, "run 50");
        x.quota(1, 1, 9);
        x.ticks(3);
        int[] counts = {3, 1, 1, 2, 0, 3, 9, 0, 0, 0, 0, 0, 0, 0, 1, 1, 1};
        for (int k = 0; k < counts.length; k++) due(36, "count(" + k + ")", x.count(k), counts[k]);
        due(36, "count(17)", x.count(17), NONE);
        due(36, "count(-1)", x.count(-1), NONE);
    }

    private static void status() {
        DeadlineShare x = joined(8, 5, 8, 5, 8, 5);
        x.task(1, 1);
        x.weigh(0, 9);
        due(37, "status() by -1", x.status(), -1);
        due(37, "it stays behind calls that are not among these", x.of(0, 0) + x.feed(0, 0, 0, 0, 0) + x.end(0) + x.status(), 27);
        x.join(9);
        due(37, "status() by -2", x.status(), -2);
        x.join(0);
        due(37, "status() by -4", x.status(), -4);
        x.join(3);
        due(37, "status() by -5", x.status(), -5);
        x.script(0);
        due(37, "status() by -6", x.status(), -6);
        x.image(0);
        due(37, "status()", x.status(), 0);
        x.listing(0);
        due(37, "status() by listing", x.status(), -4);
        x.back(0);
        due(37, "status()", x.status(), 0);
        x.terms(9, 9);
        due(37, "status() by terms", x.status(), -1);
        x.ticks(1);
        due(37, "status()", x.status(), 0);
        x.undo();
        x.undo();
        due(37, "status() by undo", x.status(), -4);
        int[] refused = {2, 1, 3, 1, 1};
        for (int k = 0; k < 5; k++) due(36, "count(" + (8 + k) + ")", x.count(8 + k), refused[k]);
    }
}
