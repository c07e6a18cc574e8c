import java.math.BigInteger;

/** Terms I, II and IV of the document: each sentence by a test of its own. */
public final class TermSentences extends Sentences {
    public static void main(String[] args) {
        at("I");
        numbers();
        ranges();
        virtualTime();
        quotas();
        refused();
        at("II");
        toJoin();
        carried();
        toLeave();
        toWeigh();
        toSliceAndYield();
        at("IV");
        ways();
        inTurn();
        draws();
        constants();
        close();
    }

    // ------------------------------------------------------------ Term I

    /** Tasks of 8, and of what is left of w, all ON. */
    private static DeadlineShare together(int w) {
        DeadlineShare x = new DeadlineShare();
        for (int left = w; left > 0; left -= 8) x.join(x.task(Math.min(8, left), 5));
        return x;
    }

    private static void numbers() {
        says("UNIT is 5,354,228,880 (each number 1 .. 24 divides it);");
        for (int w = 1; w <= 24; w++) {
            DeadlineShare x = together(w);
            x.ticks(1);
            for (int t = 0; t < x.count(0); t++) due("share(" + t + ", 0, 1) times " + w, x.share(t, 0, 1) * w, U * x.of(t, 0));
        }
        says("quotients go downwards, below 0, too.");
        DeadlineShare x = belowZero();
        long v3 = -55 * (U / 153), v2 = Math.floorDiv(-11_631 * U, 29_376L);
        due("-11,631 U by 29,376 is not whole", Math.floorMod(-11_631 * U, 29_376L) == 0 ? 0 : 1, 1);
        due("v of 2", x.exact(2, 0), v2);
        due("V cut", x.time(0), Math.floorDiv(v3 + 8 * v2, 9L));
        due("V above that, times 9", x.time(1), Math.floorMod(v3 + 8 * v2, 9L));
        x = joined(1, 1, 1, 1, 1, 1);
        due("would(0, 1, 0): a third", x.would(0, 1, 0), 33);
        due("would(0, 1, 1): less two thirds", x.would(0, 1, 1), -67);
        due("wish(0, 11): 11 by 3", x.wish(0, 11), 3);
    }

    private static void ranges() {
        says("TASKS 0 .. 11 as they come:");
        DeadlineShare x = new DeadlineShare();
        for (int i = 0; i < 12; i++) due("task " + i, x.task(1, 1), i);
        due("a 13th task", x.task(1, 1), -5);
        due("of(11, 0)", x.of(11, 0), 1);
        due("of(12, 0)", x.of(12, 0), NONE);
        due("of(-1, 0)", x.of(-1, 0), NONE);
        says("WEIGHT 1 .. 8,");
        x = new DeadlineShare();
        due("task(0, 5)", x.task(0, 5), -1);
        due("task(9, 5)", x.task(9, 5), -1);
        due("task(1, 5)", x.task(1, 5), 0);
        due("task(8, 5)", x.task(8, 5), 1);
        due("weigh(0, 8)", x.weigh(0, 8), 1);
        due("weigh(0, 9)", x.weigh(0, 9), -1);
        due("weigh(0, 1)", x.weigh(0, 1), 8);
        due("weigh(0, 0)", x.weigh(0, 0), -1);
        says("SLICE 1 .. 20,");
        x = new DeadlineShare();
        due("task(5, 0)", x.task(5, 0), -1);
        due("task(5, 21)", x.task(5, 21), -1);
        due("task(5, 1)", x.task(5, 1), 0);
        due("task(5, 20)", x.task(5, 20), 1);
        due("slice(0, 20)", x.slice(0, 20), 1);
        due("slice(0, 21)", x.slice(0, 21), -1);
        due("slice(0, 1)", x.slice(0, 1), 20);
        due("slice(0, 0)", x.slice(0, 0), -1);
        says("OFF (at first), ON, NAPPING or THROTTLED.");
        x = new DeadlineShare();
        for (int i = 0; i < 4; i++) x.task(1, 1);
        due("of(0, 2)", x.of(0, 2), 0);
        x.join(1);
        due("of(1, 2)", x.of(1, 2), 1);
        script(x, 2, "nap 9");
        due("of(2, 2)", x.of(2, 2), 2);
        x.leave(1);
        x.quota(3, 1, 9);
        x.join(3);
        x.ticks(1);
        due("of(3, 2)", x.of(3, 2), 3);
        timeAndW();
    }

    private static void timeAndW() {
        says("TIME 0 .. 9,999 (0 at first) in TICKS.");
        DeadlineShare x = new DeadlineShare();
        due("time(3)", x.time(3), 0);
        x.ticks(1);
        due("time(3)", x.time(3), 1);
        ticks(x, 9_998);
        due("time(3)", x.time(3), 9_999);
        due("ticks(1)", x.ticks(1), -4);
        due("time(3)", x.time(3), 9_999);
        says("W: the WEIGHTS of all that are ON together, 24 at most.");
        x = new DeadlineShare();
        due("time(2) with none", x.time(2), 0);
        for (int i = 0; i < 4; i++) x.task(8, 5);
        x.task(1, 5);
        due("join(0)", x.join(0), 8);
        x.quota(0, 1, 60);
        x.ticks(1);
        due("time(2): one is THROTTLED", x.time(2), 0);
        due("script(1)", script(x, 1, "nap 60"), 1);
        due("time(2): one NAPS", x.time(2), 0);
        due("join(2)", x.join(2), 8);
        due("join(3)", x.join(3), 16);
        due("weigh(1, 1) of one that is not ON", x.weigh(1, 1), 8);
        due("time(2)", x.time(2), 16);
        x.leave(0);
        x.quota(0, 0, 0);
        due("join(0): 24", x.join(0), 24);
        due("join(4): 25", x.join(4), -5);
        due("time(2)", x.time(2), 24);
    }

    private static void virtualTime() {
        says("One that is ON has a VIRTUAL time v (a long; may be below 0)");
        DeadlineShare x = joined(1, 5);
        due("v at first", x.exact(0, 0), 0);
        x.ticks(60);
        due("60 U", x.exact(0, 0), 60 * U);
        due("below 0", belowZero().exact(3, 0), -55 * (U / 153));
        due("far below 0", WideNumbers.driven(10, 23).exact(1, 0), -4_403_783_544_299_832_124L);
        x.leave(0);
        due("v of one that is OFF", x.exact(0, 0), NOTHING);
        says("and LEFT, 1 .. SLICE: TICKS of its REQUEST that are not served yet.");
        x = joined(1, 3);
        int[] left = {3, 2, 1, 3, 2, 1, 3};
        for (int i = 0; i < left.length; i++) {
            due("LEFT at TIME " + i, x.of(0, 3), left[i]);
            x.ticks(1);
        }
        x = joined(1, 1);
        x.ticks(1);
        due("LEFT of a SLICE of 1", x.of(0, 3), 1);
        says("Its DEADLINE: v, and LEFT times UNIT by WEIGHT.");
        for (int w = 1; w <= 8; w++) {
            x = joined(w, 20);
            due("at first", x.exact(0, 1), 20 * (U / w));
            x.ticks(19);
            due("the last TICK is left", x.exact(0, 1), 20 * (U / w));
            x.ticks(1);
            due("the next REQUEST", x.exact(0, 1), 40 * (U / w));
            x.slice(0, 7);
            due("LEFT 7", x.exact(0, 1), 27 * (U / w));
        }
        ofAll();
    }

    private static void ofAll() {
        says("V: all v, each times WEIGHT, together, by W: a fraction that is not cut;");
        DeadlineShare x = joined(1, 3, 2, 3);
        x.yields(0);
        due("V: 3 U by 3", x.time(0), U);
        x.yields(1);
        due("V: 6 U by 3", x.time(0), 2 * U);
        x = oneApart();
        long lower = x.exact(1, 0);
        due("v of 0 is 1 above", x.exact(0, 0), lower + 1);
        due("V cut", x.time(0), lower);
        due("and a half, times 2", x.time(1), 1);
        x = WideNumbers.driven(10, 23);
        due("V of far ones", x.time(0), 119_125_969_786_882_252L);
        says("with none ON it is REST, a whole number (0 at first).");
        x = new DeadlineShare();
        due("time(0)", x.time(0), 0);
        due("time(1)", x.time(1), 0);
        x = oneApart();
        x.leave(1);
        x.leave(0);
        due("time(0)", x.time(0), lower + 1);
        due("time(1)", x.time(1), 0);
        says("LAG of one that is ON: WEIGHT times what V is above v, not cut.");
        x = oneApart();
        due("LAG of 1 is a half", x.exact(1, 2), 1);
        due("LAG of 0 is less a half", x.exact(0, 2), -1);
        x = joined(1, 3, 2, 3);
        x.yields(1);
        due("V is U: LAG of 0 times 3", x.exact(0, 2), 3 * U);
        due("LAG of 1 times 3: 2 times less a half", x.exact(1, 2), -3 * U);
        says("It is ELIGIBLE, if v is not above V.");
        due("all at V", joined(1, 3, 2, 3).eligible(), 3);
        due("alone", joined(1, 3).eligible(), 1);
        due("a half of 1 above V", oneApart().eligible(), 2);
        due("one far above V", x.eligible(), 1);
        due("none ON", new DeadlineShare().eligible(), 0);
    }

    private static void quotas() {
        says("A TASK may have a QUOTA n of a PERIOD (none at first);");
        DeadlineShare x = joined(1, 5);
        due("of(0, 13)", x.of(0, 13), 0);
        due("of(0, 14)", x.of(0, 14), 0);
        x.quota(0, 2, 9);
        due("of(0, 13)", x.of(0, 13), 2);
        due("of(0, 14)", x.of(0, 14), 9);
        says("its BUDGET: how many TICKS of it are left (none without a QUOTA; it is SPENT, if it is 0).");
        due("of(0, 12)", joined(1, 5).of(0, 12), NONE);
        due("of(0, 12)", x.of(0, 12), 2);
        x.ticks(1);
        due("of(0, 12)", x.of(0, 12), 1);
        x.leave(0);
        due("join(0): not SPENT", x.join(0), 1);
        x.ticks(1);
        due("of(0, 12)", x.of(0, 12), 0);
        x.leave(0);
        due("join(0): SPENT", x.join(0), -4);
        x.quota(0, 0, 0);
        due("join(0) without a QUOTA", x.join(0), 1);
        says("TERMS: 0 MODE 0, 1 (0 at first), 1 CARRY 0 .. 3 (1), 2 SEED 0 .. 1,000,000 (1).");
        int[] first = {0, 1, 1}, most = {1, 3, 1_000_000};
        for (int k = 0; k < 3; k++) {
            x = new DeadlineShare();
            due("TERM " + k, x.count(13 + k), first[k]);
            due("terms(" + k + ", -1)", x.terms(k, -1), -1);
            due("terms(" + k + ", 0)", x.terms(k, 0), first[k]);
            due("terms(" + k + ", " + most[k] + ")", x.terms(k, most[k]), 0);
            due("terms(" + k + ", " + (most[k] + 1) + ")", x.terms(k, most[k] + 1), -1);
            due("TERM " + k, x.count(13 + k), most[k]);
        }
        due("terms(-1, 0)", x.terms(-1, 0), -1);
        due("terms(3, 0)", x.terms(3, 0), -1);
        says("The TAPE: 200 bytes at most.");
        x = new DeadlineShare();
        for (int k = 1; k <= 10; k++) due("feed " + k, x.feed(k, k, k, k, k), 20 * k);
        due("feed 11", x.feed(0, 0, 0, 0, 0), NONE);
        due("count(7)", x.count(7), 200);
        due("tape(199)", x.tape(199), 10);
        due("tape(200)", x.tape(200), NONE);
    }

    /** 0, 1 and 2 are ON (W is 24), 3 NAPS, 4 is OFF, 5 is OFF and SPENT, 6 is THROTTLED; 2 has a SCRIPT. */
    private static DeadlineShare full() {
        DeadlineShare x = new DeadlineShare();
        for (int i = 0; i < 7; i++) x.task(8, 5);
        script(x, 3, "nap 60,run 1");
        for (int i = 5; i <= 6; i++) {
            x.quota(i, 1, 60);
            x.join(i);
            x.ticks(1);
        }
        x.leave(5);
        x.join(0);
        x.join(1);
        script(x, 2, "run 99");
        return x;
    }

    private static void refused() {
        says("REFUSED by: -1 a number that can't be; -2 there is no such TASK; -4 it can't be by what stands;");
        DeadlineShare x = full();
        due("time(2)", x.time(2), 24);
        for (int i = 0; i < 7; i++) due("of(" + i + ", 2)", x.of(i, 2), new int[] {1, 1, 1, 2, 0, 0, 3}[i]);
        due("weigh(0, 9)", x.weigh(0, 9), -1);
        due("weigh(7, 8)", x.weigh(7, 8), -2);
        due("weigh(0, 8)", x.weigh(0, 8), -4);
        says("-5 no room; -6 a SCRIPT that can't be read.");
        due("join(4)", x.join(4), -5);
        due("script(0)", script(x, 0, "?"), -6);
        says("The first of these in that order.");
        due("-1 ahead of -2: weigh", x.weigh(7, 9), -1);
        due("-1 ahead of -2: slice", x.slice(7, 21), -1);
        due("-1 ahead of -2: wish", x.wish(7, 100), -1);
        due("-1 ahead of -2: quota", x.quota(7, 51, 60), -1);
        due("-2 ahead of -6: script", script(x, 7, "?"), -2);
        due("-4 ahead of -5: join of one that is ON", x.join(0), -4);
        due("-4 ahead of -5: join of one that is SPENT", x.join(5), -4);
        due("-4 ahead of -5 and -6: script of one that is SPENT", x.script(5), -4);
        due("-4 ahead of -5 and -6: script of one that NAPS", x.script(3), -4);
        due("-5 ahead of -6: script", x.script(4), -5);
        due("-1 ahead of -5: task", task12().task(9, 1), -1);
        due("-1 ahead of -4: back", x.back(2), -1);
        x = new DeadlineShare();
        ticks(x, 9_999);
        due("-1 ahead of -4: ticks", x.ticks(61), -1);
        refusedChangesNothing();
    }

    private static DeadlineShare task12() {
        DeadlineShare x = new DeadlineShare();
        for (int i = 0; i < 12; i++) x.task(1, 1);
        return x;
    }

    /** All that can be told but REFUSED calls. */
    private static String stands(DeadlineShare x) {
        StringBuilder b = new StringBuilder();
        for (int t = 0; t < x.count(0); t++) {
            for (int k = 0; k < 15; k++) b.append(x.of(t, k)).append(' ');
            for (int k = 0; k < 4; k++) b.append(x.exact(t, k)).append(' ');
        }
        for (int k = 0; k < 8; k++) b.append(x.count(k)).append(' ');
        for (int k = 13; k < 17; k++) b.append(x.count(k)).append(' ');
        for (int k = 0; k < 4; k++) b.append(x.time(k)).append(' ');
        return b.append(whoRan(x, 0, 3)).append(x.back(0)).toString();
    }

    private static int refusedCall(DeadlineShare x, int k) {
        switch (k) {
            case 0: return x.terms(0, 2);
            case 1: return x.task(9, 1);
            case 2: return x.join(4);
            case 3: return x.join(5);
            case 4: return x.leave(4);
            case 5: return x.weigh(0, 8);
            case 6: return x.slice(0, 5);
            case 7: return x.wish(0, 0);
            case 8: return x.yields(3);
            case 9: return x.quota(0, 5, 5);
            case 10: return x.script(3);
            case 11: return x.script(4);
            case 12: return x.script(7);
            case 13: return x.listing(0);
            case 14: return x.ticks(0);
            case 15: return x.image(2);
            case 16: return x.back(1);
            case 17: return x.leave(7);
            case 18: return x.listing(7);
            default: return x.weigh(4, 9);
        }
    }

    private static void refusedChangesNothing() {
        says("What is REFUSED changes nothing but what is told of it (the TAPE, as told).");
        int[] by = {-1, -1, -5, -4, -4, -4, -4, -1, -4, -1, -4, -5, -2, -4, -1, -1, -4, -2, -2, -1};
        for (int k = 0; k < by.length; k++) {
            DeadlineShare x = full();
            put(x, "run 1");
            due("call " + k, refusedCall(x, k), by[k]);
            due("status() by call " + k, x.status(), by[k]);
            DeadlineShare y = full();
            put(y, "run 1");
            dueText("all behind call " + k, stands(x), stands(y));
            due("undo() behind call " + k, x.undo(), 5);
        }
        DeadlineShare x = full();
        due("script(0)", script(x, 0, "run 1,nap"), -6);
        due("fault()", x.fault(), 9);
        due("the TAPE is empty", x.count(7), 0);
        dueText("all else", stands(x), stands(full()));
    }

    // ------------------------------------------------------------ Term II

    private static BigInteger big(long n) {
        return BigInteger.valueOf(n);
    }

    private static long cut(BigInteger top, long by) {
        BigInteger[] q = top.divideAndRemainder(big(by));
        return q[0].subtract(q[1].signum() < 0 ? BigInteger.ONE : BigInteger.ZERO).longValueExact();
    }

    /** V less a LAG (times w2, by w2) by WEIGHT, all one fraction, V being cut and rest by w. */
    private static long oneFraction(long vCut, long rest, long w, long lag, long w2, long weight) {
        BigInteger top = big(vCut).multiply(big(w)).add(big(rest)).multiply(big(w2 * weight)).subtract(big(lag).multiply(big(w)));
        return cut(top, w * w2 * weight);
    }

    /** 3 left with a LAG that is not whole (W was 22), V of the others (W is 17) is not whole either. */
    private static DeadlineShare twoFractions() {
        DeadlineShare x = joined(1, 1, 1, 1, 7, 1, 7, 1);
        x.yields(0);
        x.weigh(1, 8);
        x.weigh(0, 2);
        x.ticks(2);
        x.weigh(3, 5);
        x.leave(3);
        return x;
    }

    private static void toJoin() {
        says("TO JOIN (not ON before): v is V less CARRIED by WEIGHT (all that one fraction, cut downwards at last), V as it is without it;");
        for (int weight = 1; weight <= 7; weight++) {
            DeadlineShare x = twoFractions();
            x.weigh(3, weight);
            long v = oneFraction(x.time(0), x.time(1), 17, x.exact(3, 3), 22, weight);
            due("V is not whole", x.time(1) == 0 ? 0 : 1, 1);
            due("nor is LAG", x.exact(3, 3) % 22 == 0 ? 0 : 1, 1);
            due("join(3)", x.join(3), 17 + weight);
            due("v by weight " + weight, x.exact(3, 0), v);
        }
        DeadlineShare x = yielded();
        x.leave(0);
        x.join(0);
        due("V without it is 0", x.exact(0, 0), 2 * U);
        x = joined(3, 2);
        x.ticks(1);
        due("by REST with none ON: leave", x.leave(0), 0);
        x.join(0);
        due("by REST with none ON", x.exact(0, 0), U / 3);
        says("LEFT is SLICE; WAIT is 0.");
        x = joined(1, 4, 1, 4);
        x.ticks(2);
        x.ticks(1);
        due("LEFT of 0", x.of(0, 3), 2);
        due("WAIT of 1", x.of(1, 7), 1);
        x.leave(0);
        x.leave(1);
        x.slice(0, 6);
        x.join(0);
        x.join(1);
        due("LEFT of 0", x.of(0, 3), 6);
        due("LEFT of 1", x.of(1, 3), 4);
        due("WAIT of 1", x.of(1, 7), 0);
    }

    /** One of yielded() leaves and joins again by this CARRY, with this SLICE and WEIGHT: its v. */
    private static long joinsAt(int carry, int task, int slice, int weight) {
        DeadlineShare x = yielded();
        x.leave(task);
        x.terms(1, carry);
        if (slice != 4) x.slice(task, slice);
        if (weight != 1) x.weigh(task, weight);
        x.join(task);
        return x.exact(task, 0);
    }

    private static void carried() {
        says("CARRIED (0 at first): by CARRY 0: 0;");
        for (int carry = 0; carry <= 3; carry++) {
            DeadlineShare x = yielded();
            x.terms(1, carry);
            x.task(1, 3);
            x.join(2);
            due("the first join, CARRY " + carry, x.exact(2, 0), 2 * U);
        }
        due("A at V, CARRY 0", joinsAt(0, 0, 4, 1), 0);
        due("B at V, CARRY 0", joinsAt(0, 1, 4, 1), 4 * U);
        says("1: the LAG with which it left last, not cut (its WEIGHT may be another one now);");
        due("A", joinsAt(1, 0, 4, 1), 2 * U);
        due("A, weight 4", joinsAt(1, 0, 4, 4), U / 2);
        due("B", joinsAt(1, 1, 4, 1), 2 * U);
        due("B, weight 8", joinsAt(1, 1, 4, 8), 4 * U - U / 4);
        due("B, SLICE is not asked", joinsAt(1, 1, 1, 1), 2 * U);
        DeadlineShare x = oneApart();
        long v = x.exact(0, 0);
        x.leave(1);
        x.join(1);
        due("a LAG of a half is not cut to 0", x.exact(1, 0), v - 1);
        x = yielded();
        x.leave(0);
        x.terms(1, 0);
        x.join(0);
        x.leave(0);
        due("it left last without a LAG", x.exact(0, 3), 0);
        x.terms(1, 1);
        x.join(0);
        due("that counts", x.exact(0, 0), 0);
        carriedInPart();
    }

    private static void carriedInPart() {
        says("2: that, but not above SLICE times UNIT, not below less that;");
        due("B: 2 U with a SLICE of 3", joinsAt(2, 1, 3, 1), 2 * U);
        due("B: 2 U with a SLICE of 2", joinsAt(2, 1, 2, 1), 2 * U);
        due("B: U with a SLICE of 1", joinsAt(2, 1, 1, 1), 3 * U);
        due("B: U by 2 with a SLICE of 1", joinsAt(2, 1, 1, 2), 4 * U - U / 2);
        due("A: -2 U with a SLICE of 3", joinsAt(2, 0, 3, 1), 2 * U);
        due("A: -2 U with a SLICE of 2", joinsAt(2, 0, 2, 1), 2 * U);
        due("A: -U with a SLICE of 1", joinsAt(2, 0, 1, 1), U);
        due("A: -U by 2 with a SLICE of 1", joinsAt(2, 0, 1, 2), U / 2);
        says("3: that, if it is below 0, or else 0.");
        due("A: -2 U", joinsAt(3, 0, 4, 1), 2 * U);
        due("A: SLICE is not asked", joinsAt(3, 0, 1, 1), 2 * U);
        due("B: 0", joinsAt(3, 1, 4, 1), 4 * U);
        DeadlineShare x = oneApart();
        long v = x.exact(1, 0);
        x.terms(1, 3);
        x.leave(0);
        x.join(0);
        due("less a half is below 0: V and a half, cut", x.exact(0, 0), v);
        DeadlineShare y = oneApart();
        y.terms(1, 3);
        y.leave(1);
        y.join(1);
        due("a half is not: V", y.exact(1, 0), v + 1);
        x.weigh(0, 2);
        x.weigh(1, 2);
        x.leave(1);
        x.join(1);
        due("LAG 0", x.exact(1, 0), v);
        says("There is no room, if W would be above 24.");
        x = joined(8, 1, 8, 1, 7, 1);
        x.task(2, 1);
        x.task(1, 1);
        due("join(3): 25", x.join(3), -5);
        due("script(3): 25", script(x, 3, "run 1"), -5);
        due("join(4): 24", x.join(4), 24);
    }

    private static void toLeave() {
        says("TO LEAVE: its LAG is kept.");
        DeadlineShare x = yielded();
        x.task(2, 4);
        x.join(2);
        x.leave(0);
        due("LAG of 0 times 4", x.exact(0, 3), -8 * U);
        x.weigh(0, 8);
        x.slice(0, 1);
        x.ticks(9);
        due("LAG stays as it was", x.exact(0, 3), -8 * U);
        x = yielded();
        script(x, 1, "nap 5");
        due("that of one that NAPS", x.exact(1, 3), 4 * U);
        x = joined(1, 4, 1, 4);
        x.quota(0, 1, 60);
        x.ticks(1);
        due("that of one that is THROTTLED", x.exact(0, 3), -U);
        says("If it is the last one ON, REST is V (cut).");
        x = yielded();
        x.leave(0);
        due("V is v of B", x.time(0), 0);
        x.leave(1);
        due("REST", x.time(0), 0);
        x = yielded();
        x.leave(1);
        x.leave(0);
        due("REST", x.time(0), 4 * U);
        x.ticks(9);
        due("it stays in IDLE TICKS", x.time(0), 4 * U);
        x = joined(1, 3);
        script(x, 0, "run 2,nap 9");
        x.ticks(3);
        due("REST by a nap", x.time(0), 2 * U);
        x = joined(1, 3);
        x.quota(0, 3, 60);
        x.ticks(4);
        due("REST by a QUOTA", x.time(0), 3 * U);
        x = joined(1, 3);
        script(x, 0, "run 1");
        x.ticks(2);
        due("REST by the end of a SCRIPT", x.time(0), U);
    }

    private static void toWeigh() {
        says("TO WEIGH anew: not ON: WEIGHT is the new one.");
        DeadlineShare x = joined(8, 5, 8, 5, 8, 5);
        x.task(1, 5);
        due("weigh(3, 8) of one that is OFF", x.weigh(3, 8), 1);
        due("of(3, 0)", x.of(3, 0), 8);
        due("time(2)", x.time(2), 24);
        script(x, 0, "nap 60");
        x.weigh(0, 1);
        due("join(3)", x.join(3), 24);
        due("weigh(0, 8) of one that NAPS", x.weigh(0, 8), 1);
        x.quota(3, 1, 60);
        for (int i = 0; i < 9 && x.of(3, 2) == 1; i++) x.ticks(1);
        long lag = x.exact(3, 3);
        due("weigh(3, 2) of one that is THROTTLED", x.weigh(3, 2), 8);
        due("its LAG stays", x.exact(3, 3), lag);
        says("ON (no room, if W would be above 24): v is then V less LAG by the new WEIGHT (that one fraction, cut), V and LAG as they are ahead of it;");
        x = joined(8, 1, 8, 1, 1, 1, 6, 1);
        due("weigh(2, 3): 25", x.weigh(2, 3), -5);
        due("weigh(2, 2): 24", x.weigh(2, 2), 1);
        x = yielded();
        x.weigh(1, 2);
        due("2 U less 2 U by 2", x.exact(1, 0), U);
        x.weigh(0, 4);
        due("2 U and 2 U by 4", x.exact(0, 0), 2 * U + U / 2);
        x = joined(1, 1, 1, 1, 7, 1, 7, 1);
        x.yields(0);
        x.weigh(1, 8);
        due("7 U by 128, cut", x.exact(1, 0), 7 * U / 128);
        for (int weight = 1; weight <= 7; weight++) {
            x = belowZero();
            long due = oneFraction(x.time(0), x.time(1), 9, x.exact(2, 2), 9, weight);
            x.weigh(2, weight);
            due("below 0 by weight " + weight, x.exact(2, 0), due);
        }
        says("LEFT stays.");
        x = joined(1, 5, 2, 5);
        x.ticks(4);
        int left = x.of(1, 3);
        due("LEFT is not SLICE", left, 2);
        x.weigh(1, 7);
        due("LEFT", x.of(1, 3), left);
    }

    private static void toSliceAndYield() {
        says("A new SLICE: LEFT is it at most.");
        DeadlineShare x = joined(1, 10);
        x.ticks(3);
        x.slice(0, 8);
        due("LEFT 7 is below 8", x.of(0, 3), 7);
        x.slice(0, 7);
        due("LEFT 7 is 7", x.of(0, 3), 7);
        x.slice(0, 6);
        due("LEFT 7 is above 6", x.of(0, 3), 6);
        x.slice(0, 20);
        due("LEFT does not grow", x.of(0, 3), 6);
        x.wish(0, 5);
        due("by a wish", x.of(0, 3), 5);
        script(x, 0, "slice 2,run 1");
        due("by a SCRIPT", x.of(0, 3), 2);
        says("TO YIELD: v is DEADLINE, LEFT is SLICE (no REQUEST is served by it).");
        x = joined(2, 6);
        x.ticks(5);
        due("LEFT", x.of(0, 3), 1);
        x.slice(0, 9);
        x.yields(0);
        due("v: 5 U by 2 and U by 2", x.exact(0, 0), 3 * U);
        due("LEFT", x.of(0, 3), 9);
        due("REQUESTS", x.of(0, 5), 0);
        due("SERVED", x.of(0, 4), 5);
        due("LATE", x.of(0, 6), 0);
    }

    // ------------------------------------------------------------ Term IV

    private static void ways() {
        says("(On paper:) WAYS to choose: 0 as told in (b) by the MODE;");
        DeadlineShare x = joined(1, 3, 1, 3);
        due("010101", x.would(0, 6, 2), 6);
        due("no LAG above a half", x.would(0, 6, 0), 50);
        x.terms(0, 1);
        due("000111", x.would(0, 6, 2), 2);
        due("a LAG of 3 by 2", x.would(0, 6, 0), 150);
        x.ticks(1);
        due("00: one goes on", x.would(0, 2, 2), 0);
        says("1 each TICK the least v (the lowest number);");
        x = joined(1, 20, 2, 1);
        due("1 has the first DEADLINE", x.would(0, 1, 1), -34);
        due("like ones: 0", x.would(1, 1, 1), -67);
        x.terms(0, 1);
        due("011011: MODE is not asked", x.would(1, 6, 2), 4);
        x = joined(1, 1, 1, 20);
        x.yields(0);
        due("10: 1 is the least, then both are like", x.would(1, 2, 2), 2);
        due("LAG of 1 behind 10", x.would(1, 2, 0), 50);
        due("LAG of 0", x.would(1, 2, 1), -50);
        says("2 each TICK the first DEADLINE, ELIGIBLE or not (the lowest number);");
        x = joined(1, 5, 1, 1);
        due("1111", x.would(2, 4, 2), 1);
        due("LAG of 0: 2", x.would(2, 4, 0), 200);
        due("11110: like DEADLINES, the lowest number", x.would(2, 5, 2), 2);
        x = joined(1, 5, 1, 3);
        x.terms(0, 1);
        x.ticks(1);
        x.slice(0, 1);
        due("1: MODE is asked by WAY 0", x.would(0, 1, 2), 0);
        due("0: but not here", x.would(2, 1, 2), 1);
    }

    private static void inTurn() {
        says("3 in turn: the next number above that of the one that ran last (NONE: the first), round, that is ON;");
        DeadlineShare x = joined(1, 5, 2, 5, 3, 5);
        due("0 first: LAG -5 by 6", x.would(3, 1, 1), -84);
        due("012012", x.would(3, 6, 2), 6);
        x.leave(0);
        due("1 is the first that is ON: LAG -3 by 5", x.would(3, 1, 1), -60);
        x.leave(1);
        x.join(0);
        due("0 2 0 2: over one that is OFF", x.would(3, 4, 2), 4);
        x = joined(1, 5, 1, 5, 8, 1);
        x.ticks(1);
        due("2 ran last", x.count(4), 2);
        x.leave(0);
        due("round to 1, which is ON", x.would(3, 1, 2), 1);
        x.leave(1);
        due("round to itself", x.would(3, 3, 2), 0);
        due("no TICK is IDLE", x.would(3, 3, 3), 0);
        x.leave(2);
        due("none is ON", x.would(3, 3, 3), 3);
        x.join(0);
        due("one that is not ON ran last", x.would(3, 3, 2), 1);
    }

    /** Draws among tasks of these weights, from this s on: how often another one runs, all being ON. */
    private static int changes(long seed, int n, int last, int... weights) {
        int w = 0, changes = 0, before = last;
        for (int weight : weights) w += weight;
        long s = seed;
        for (int i = 0; i < n; i++) {
            s = (1_103 * s + 12_345) % 1_000_003;
            int part = (int) (s % w), who = 0;
            while (part >= weights[who]) part -= weights[who++];
            if (who != before) changes++;
            before = who;
        }
        return changes;
    }

    private static void draws() {
        says("4 by draws: s is SEED at first; a DRAW of m: s becomes (1,103 times s and 12,345) modulo 1,000,003, it is s modulo m:");
        DeadlineShare x = joined(1, 5, 1, 5);
        x.yields(0);
        x.ticks(1);
        due("1 ran last", x.count(4), 1);
        for (int seed : new int[] {0, 1, 2, 3, 906, 500_000, 999_999, 1_000_000}) {
            x.terms(2, seed);
            due("1 draw, SEED " + seed, x.would(4, 1, 2), changes(seed, 1, 1, 1, 1));
            due("60 draws, SEED " + seed, x.would(4, 60, 2), changes(seed, 60, 1, 1, 1));
            due("once more from SEED on", x.would(4, 60, 2), changes(seed, 60, 1, 1, 1));
        }
        due("SEED stays", x.count(15), 1_000_000);
        says("a DRAW of W: the one in whose part it falls, TASK by TASK, each as wide as its WEIGHT.");
        x = joined(1, 5, 2, 5, 4, 5);
        for (int seed = 0; seed < 30; seed++) {
            x.terms(2, seed);
            due("SEED " + seed, x.would(4, 1, 1), new int[] {-86, -72, -43}[whose(seed, 1, 2, 4)]);
            due("40 draws, SEED " + seed, x.would(4, 40, 2), changes(seed, 40, NONE, 1, 2, 4));
        }
        x.leave(1);
        for (int seed = 0; seed < 30; seed++) {
            x.terms(2, seed);
            due("1 is OFF, SEED " + seed, x.would(4, 1, 1), new int[] {-80, -20}[whose(seed, 1, 4)]);
        }
        x = new DeadlineShare();
        x.task(1, 5);
        x.task(2, 5);
        script(x, 0, "nap 5,run 99");
        script(x, 1, "nap 5,run 99");
        due("no DRAW while none is ON", x.would(4, 45, 2), changes(1, 40, NONE, 1, 2));
        due("a DRAW of 1", joined(1, 5).would(4, 5, 3), 0);
    }

    private static int whose(long seed, int... weights) {
        int w = 0, who = 0;
        for (int weight : weights) w += weight;
        long part = (1_103 * seed + 12_345) % 1_000_003 % w;
        while (part >= weights[who]) part -= weights[who++];
        return who;
    }

    private static void constants() {
        says("The constants: NONE = -1: There is none.");
        due("NONE", DeadlineShare.NONE, -1);
        due("there is none", new DeadlineShare().count(4), DeadlineShare.NONE);
        says("NOTHING = Long.MIN_VALUE: Told where any long may be one: there is none.");
        due("NOTHING", DeadlineShare.NOTHING, Long.MIN_VALUE);
        due("there is none", new DeadlineShare().exact(0, 0), DeadlineShare.NOTHING);
    }
}
