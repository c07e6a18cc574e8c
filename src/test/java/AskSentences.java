/** Promises 21 to 37, what is told and what is worked out on paper: each sentence by a test of its own. */
public final class AskSentences extends Sentences {
    private static final int MIN = Integer.MIN_VALUE;
    private static final int MAX = Integer.MAX_VALUE;

    public static void main(String[] args) {
        of();
        ofServed();
        ofScript();
        ofQuota();
        exact();
        time();
        eligible();
        earliest();
        rank();
        ran();
        service();
        share();
        worst();
        ahead();
        finish();
        dueRequests();
        least();
        would();
        wouldCounts();
        count();
        countRefused();
        status();
        close();
    }

    /** 0 is OFF, 1 is ON, 2 NAPS till 52, 3 is THROTTLED; TIME is 2. */
    private static DeadlineShare four() {
        DeadlineShare x = new DeadlineShare();
        for (int i = 0; i < 4; i++) x.task(2 + i, 3 + i);
        script(x, 2, "nap 52,run 9");
        x.quota(3, 1, 60);
        x.join(3);
        x.ticks(1);
        x.join(1);
        script(x, 1, "run 9,nap 1");
        x.ticks(1);
        return x;
    }

    private static void told(int what, int... answers) {
        DeadlineShare x = four();
        for (int t = 0; t < answers.length; t++) due("of(" + t + ", " + what + ")", x.of(t, what), answers[t]);
    }

    private static void of() {
        at("21");
        says("Of a TASK: WEIGHT (what 0),");
        told(0, 2, 3, 4, 5);
        says("SLICE (1),");
        told(1, 3, 4, 5, 6);
        says("0 OFF, 1 ON, 2 NAPPING, 3 THROTTLED (2),");
        told(2, 0, 1, 2, 3);
        says("LEFT (3; NONE, if not ON),");
        told(3, NONE, 3, NONE, NONE);
        says("SERVED (4),");
        told(4, 0, 1, 0, 1);
        DeadlineShare x = joined(1, 5);
        ticks(x, 9_999);
        due("of(0, 4)", x.of(0, 4), 9_999);
    }

    private static void ofServed() {
        says("REQUESTS (5),");
        told(5, 0, 0, 0, 0);
        DeadlineShare x = joined(1, 2, 1, 2);
        x.ticks(7);
        due("of(0, 5)", x.of(0, 5), 2);
        due("of(1, 5)", x.of(1, 5), 1);
        x.leave(0);
        due("when it is OFF", x.of(0, 5), 2);
        says("LATE (6),");
        told(6, 0, 0, 0, 0);
        x = joined(1, 1, 1, 3);
        x.yields(1);
        x.ticks(3);
        due("of(0, 6): twice below V, once V", x.of(0, 6), 2);
        due("of(1, 6)", x.of(1, 6), 0);
        says("WAIT (7; NONE, if not ON),");
        told(7, NONE, 0, NONE, NONE);
        x = joined(1, 5, 1, 5);
        x.ticks(1);
        due("of(1, 7)", x.of(1, 7), 1);
        x.leave(1);
        due("of(1, 7)", x.of(1, 7), NONE);
        says("LONGEST (8),");
        told(8, 0, 0, 0, 0);
        due("of(1, 8) when it is OFF", x.of(1, 8), 1);
        due("of(0, 8)", x.of(0, 8), 0);
    }

    private static void ofScript() {
        says("the TIME till which it NAPS (9; NONE),");
        told(9, NONE, NONE, 52, NONE);
        DeadlineShare x = four();
        x.leave(2);
        due("of(2, 9) when it is OFF", x.of(2, 9), NONE);
        says("the STEP that holds it (10; NONE without a SCRIPT),");
        told(10, NONE, 0, 0, NONE);
        x = joined(1, 5);
        script(x, 0, "slice 1,slice 2,slice 3,slice 4,slice 5,slice 6,slice 7,run 1");
        due("the 8th", x.of(0, 10), 7);
        x = joined(1, 5);
        x.quota(0, 1, 60);
        script(x, 0, "slice 1,run 5");
        x.ticks(1);
        due("of one that is THROTTLED", x.of(0, 10), 1);
        says("TICKS that it is still to run in that STEP (11; NONE, if a run does not hold it),");
        told(11, NONE, 8, NONE, NONE);
        due("of one that is THROTTLED", x.of(0, 11), 4);
    }

    private static void ofQuota() {
        says("BUDGET (12; NONE without a QUOTA),");
        told(12, NONE, NONE, NONE, 0);
        DeadlineShare x = four();
        x.quota(1, 5, 9);
        due("of(1, 12)", x.of(1, 12), 5);
        says("QUOTA's n (13; 0 without),");
        told(13, 0, 0, 0, 1);
        due("of(1, 13)", x.of(1, 13), 5);
        says("PERIOD (14; 0 without).");
        told(14, 0, 0, 0, 60);
        due("of(1, 14)", x.of(1, 14), 9);
        x.quota(1, 0, 7);
        for (int k = 12; k <= 14; k++) due("of(1, " + k + ") without", x.of(1, k), k == 12 ? NONE : 0);
        says("NONE for others.");
        due("of(1, 15)", x.of(1, 15), NONE);
        due("of(1, -1)", x.of(1, -1), NONE);
        due("of(1, MAX)", x.of(1, MAX), NONE);
        due("of(1, MIN)", x.of(1, MIN), NONE);
        for (int k = 0; k < 15; k++) {
            due("of(4, " + k + ")", x.of(4, k), NONE);
            due("of(-1, " + k + ")", x.of(-1, k), NONE);
            due("of(MAX, " + k + ")", x.of(MAX, k), NONE);
        }
        due("not REFUSED: count(8)", x.count(8), 0);
        due("not REFUSED: count(9)", x.count(9), 0);
    }

    private static void exact() {
        at("22");
        says("Of a TASK that is ON: v (what 0),");
        DeadlineShare x = joined(1, 3, 2, 5);
        x.ticks(2);
        dueText("ran", whoRan(x, 0, 2), "10");
        due("exact(0, 0)", x.exact(0, 0), U);
        due("exact(1, 0)", x.exact(1, 0), U / 2);
        says("DEADLINE (1),");
        due("exact(0, 1)", x.exact(0, 1), U + 2 * U);
        due("exact(1, 1)", x.exact(1, 1), U / 2 + 4 * (U / 2));
        says("LAG times W (2).");
        due("exact(0, 2): 3 times -U by 3", x.exact(0, 2), -U);
        due("exact(1, 2): 3 times 2 times U by 6", x.exact(1, 2), U);
        due("alone", joined(5, 5).exact(0, 2), 0);
        says("Of one that is not: the LAG with which it left, times W as it was then (3; 0, if it never left).");
        x.leave(0);
        due("W was 3", x.exact(0, 3), -U);
        x.ticks(5);
        due("it stays", x.exact(0, 3), -U);
        x.task(1, 1);
        due("it never left", x.exact(2, 3), 0);
        script(x, 0, "nap 5");
        due("of one that NAPS: it came with -U by 3, left with 2 thirds of that", x.exact(0, 3), -2 * (U / 3));
        x = joined(1, 5, 1, 5);
        x.quota(0, 1, 60);
        x.ticks(1);
        due("of one that is THROTTLED", x.exact(0, 3), -U);
        says("NOTHING for others.");
        for (int k = 0; k < 3; k++) due("exact(0, " + k + ") of one that is not ON", x.exact(0, k), NOTHING);
        due("exact(1, 3) of one that is ON", x.exact(1, 3), NOTHING);
        int[] whats = {-1, 4, MIN, MAX};
        for (int k : whats) {
            due("exact(0, " + k + ")", x.exact(0, k), NOTHING);
            due("exact(1, " + k + ")", x.exact(1, k), NOTHING);
        }
        for (int k = 0; k < 4; k++) {
            due("exact(2, " + k + ")", x.exact(2, k), NOTHING);
            due("exact(-1, " + k + ")", x.exact(-1, k), NOTHING);
        }
    }

    private static void time() {
        at("23");
        says("V cut (what 0; REST with none ON),");
        DeadlineShare x = oneApart();
        long v = x.exact(1, 0);
        due("v and a half", x.time(0), v);
        DeadlineShare y = joined(1, 1, 1, 1, 7, 1, 7, 1);
        y.yields(0);
        y.weigh(1, 8);
        due("V of four", y.time(0), (U + 8 * (7 * U / 128)) / 23);
        DeadlineShare z = joined(4, 5);
        z.ticks(1);
        z.leave(0);
        due("REST", z.time(0), U / 4);
        due("REST at first", new DeadlineShare().time(0), 0);
        says("what V is above that, times W (1; 0 with none ON),");
        due("a half times 2", x.time(1), 1);
        due("of four", y.time(1), (U + 8 * (7 * U / 128)) % 23);
        due("with none ON", z.time(1), 0);
        due("below 0 it is not", belowZero().time(1) > 0 ? 1 : 0, 1);
        says("W (2),");
        due("time(2)", x.time(2), 2);
        due("time(2)", y.time(2), 23);
        due("time(2)", z.time(2), 0);
        says("TIME (3).");
        due("time(3)", x.time(3), 2);
        due("time(3)", y.time(3), 0);
        says("NOTHING for others.");
        int[] whats = {-1, 4, MIN, MAX};
        for (int k : whats) due("time(" + k + ")", x.time(k), NOTHING);
    }

    private static void eligible() {
        at("24");
        says("The TASKS that are ELIGIBLE, as bits.");
        due("none", new DeadlineShare().eligible(), 0);
        DeadlineShare x = new DeadlineShare();
        for (int i = 0; i < 12; i++) x.join(x.task(2, 5));
        due("all twelve", x.eligible(), 4_095);
        x.ticks(1);
        due("all but 0", x.eligible(), 4_094);
        x.leave(11);
        due("one is OFF", x.eligible(), 2_046);
        due("a half of 1 above V is not", oneApart().eligible(), 2);
    }

    private static void earliest() {
        at("25");
        says("The k-th ELIGIBLE TASK (from 0) by DEADLINES,");
        DeadlineShare x = joined(1, 9, 1, 3, 1, 6, 8, 1);
        int[] first = {3, 1, 2, 0};
        for (int k = 0; k < 4; k++) due("earliest(" + k + ")", x.earliest(k), first[k]);
        x.ticks(1);
        due("3 is not ELIGIBLE", x.eligible(), 7);
        due("earliest(0)", x.earliest(0), 1);
        due("earliest(2)", x.earliest(2), 0);
        says("of like ones by numbers.");
        DeadlineShare y = joined(1, 4, 1, 2, 2, 8, 2, 4, 1, 4);
        int[] like = {1, 3, 0, 2, 4};
        for (int k = 0; k < 5; k++) due("earliest(" + k + ")", y.earliest(k), like[k]);
        says("NONE.");
        due("earliest(3) of three", x.earliest(3), NONE);
        due("earliest(5) of five", y.earliest(5), NONE);
        due("earliest(-1)", y.earliest(-1), NONE);
        due("earliest(MAX)", y.earliest(MAX), NONE);
        due("earliest(MIN)", y.earliest(MIN), NONE);
        due("earliest(0) of none", new DeadlineShare().earliest(0), NONE);
    }

    private static void rank() {
        at("26");
        says("How many TASKS that are ON have a lesser v");
        DeadlineShare x = joined(1, 5, 1, 2, 1, 9);
        x.yields(0);
        x.yields(1);
        x.yields(2);
        int[] rank = {1, 0, 2};
        for (int t = 0; t < 3; t++) due("rank(" + t + ")", x.rank(t), rank[t]);
        x.leave(1);
        due("rank(2) without 1", x.rank(2), 1);
        due("rank(0) without 1", x.rank(0), 0);
        says("(or a like one and a lower number).");
        DeadlineShare y = joined(1, 5, 1, 5, 1, 5);
        for (int t = 0; t < 3; t++) due("rank(" + t + ")", y.rank(t), t);
        y.yields(1);
        due("rank(1)", y.rank(1), 2);
        due("rank(2)", y.rank(2), 1);
        DeadlineShare all = twelve("run 9");
        for (int t = 0; t < 12; t++) due("rank(" + t + ") of twelve", all.rank(t), t);
        due("rank(1) of one apart", oneApart().rank(1), 0);
        due("rank(0) of one apart", oneApart().rank(0), 1);
        says("NONE, if it is not ON.");
        DeadlineShare z = four();
        due("OFF", z.rank(0), NONE);
        due("ON", z.rank(1), 0);
        due("NAPPING", z.rank(2), NONE);
        due("THROTTLED", z.rank(3), NONE);
        due("there is none", z.rank(4), NONE);
        due("rank(-1)", z.rank(-1), NONE);
        due("rank(MAX)", z.rank(MAX), NONE);
    }

    // ------------------------------------------------------------ the LOG

    private static void ran() {
        at("27");
        says("Who ran in the TICK of a TIME.");
        DeadlineShare x = joined(1, 1, 1, 1);
        x.ticks(3);
        due("ran(0)", x.ran(0), 0);
        due("ran(1)", x.ran(1), 1);
        due("ran(2)", x.ran(2), 0);
        says("NONE (it was IDLE, is not kept).");
        due("ran(3): to come", x.ran(3), NONE);
        due("ran(-1)", x.ran(-1), NONE);
        due("ran(MIN)", x.ran(MIN), NONE);
        due("ran(MAX)", x.ran(MAX), NONE);
        x.leave(0);
        x.leave(1);
        x.ticks(1);
        due("ran(3): IDLE", x.ran(3), NONE);
        x.join(1);
        ticks(x, 125);
        due("ran(0) at TIME 129", x.ran(0), NONE);
        due("ran(1) at TIME 129", x.ran(1), 1);
        due("ran(128)", x.ran(128), 1);
        due("ran(129)", x.ran(129), NONE);
    }

    private static void service() {
        at("28");
        says("SERVICE in TICKS from TIME a to TIME b");
        DeadlineShare x = joined(1, 1, 3, 1);
        x.ticks(8);
        dueText("ran", whoRan(x, 0, 8), "10111011");
        due("service(1, 0, 8)", x.service(1, 0, 8), 6);
        due("service(1, 2, 5)", x.service(1, 2, 5), 3);
        says("(without b;");
        due("service(0, 0, 1)", x.service(0, 0, 1), 0);
        due("service(0, 1, 2)", x.service(0, 1, 2), 1);
        due("service(0, 2, 5)", x.service(0, 2, 5), 0);
        says("a like b, whatever they are: 0).");
        int[] any = {0, 5, 8, 9, -1, MIN, MAX};
        for (int a : any) due("service(1, " + a + ", " + a + ")", x.service(1, a, a), 0);
        says("NONE (no such TASK;");
        due("service(2, 0, 8)", x.service(2, 0, 8), NONE);
        due("service(-1, 0, 8)", x.service(-1, 0, 8), NONE);
        due("service(2, 3, 3)", x.service(2, 3, 3), NONE);
        says("not all are in the LOG;");
        due("service(1, 0, 9)", x.service(1, 0, 9), NONE);
        due("service(1, 8, 9)", x.service(1, 8, 9), NONE);
        due("service(1, -1, 8)", x.service(1, -1, 8), NONE);
        due("service(1, 0, MAX)", x.service(1, 0, MAX), NONE);
        due("service(1, MIN, MAX)", x.service(1, MIN, MAX), NONE);
        ticks(x, 121);
        due("service(1, 0, 8) at TIME 129", x.service(1, 0, 8), NONE);
        due("service(1, 1, 129)", x.service(1, 1, 129), 96);
        due("service(1, 1, 130)", x.service(1, 1, 130), NONE);
        says("a above b).");
        due("service(1, 5, 4)", x.service(1, 5, 4), NONE);
        due("service(1, MAX, MIN)", x.service(1, MAX, MIN), NONE);
    }

    private static void share() {
        at("29");
        says("SHARE likewise.");
        DeadlineShare x = joined(1, 1, 3, 1);
        x.ticks(8);
        due("share(1, 0, 8)", x.share(1, 0, 8), 6 * U);
        due("share(1, 7, 8)", x.share(1, 7, 8), 3 * U / 4);
        due("share(0, 0, 8)", x.share(0, 0, 8), 2 * U);
        int[] any = {0, 5, 8, 9, -1, MIN, MAX};
        for (int a : any) due("share(1, " + a + ", " + a + ")", x.share(1, a, a), 0);
        x.leave(0);
        x.ticks(1);
        due("share(0, 8, 9): it was not ON", x.share(0, 8, 9), 0);
        due("share(1, 7, 9)", x.share(1, 7, 9), 3 * U / 4 + U);
        says("NOTHING.");
        due("share(2, 0, 8)", x.share(2, 0, 8), NOTHING);
        due("share(-1, 0, 8)", x.share(-1, 0, 8), NOTHING);
        due("share(2, 3, 3)", x.share(2, 3, 3), NOTHING);
        due("share(1, 0, 10)", x.share(1, 0, 10), NOTHING);
        due("share(1, -1, 8)", x.share(1, -1, 8), NOTHING);
        due("share(1, 5, 4)", x.share(1, 5, 4), NOTHING);
        due("share(1, MIN, MAX)", x.share(1, MIN, MAX), NOTHING);
        ticks(x, 120);
        due("share(1, 0, 9) at TIME 129", x.share(1, 0, 9), NOTHING);
        due("share(1, 1, 129)", x.share(1, 1, 129), 7 * (3 * U / 4) + 121 * U);
    }

    private static void worst() {
        at("30");
        says("Of all windows of one TICK and more in the LOG, in all TICKS of which a TASK was ON:");
        DeadlineShare x = joined(1, 1, 1, 1);
        x.terms(1, 0);
        x.ticks(2);
        x.leave(1);
        x.ticks(1);
        x.join(1);
        x.yields(0);
        x.ticks(1);
        dueText("ran", whoRan(x, 0, 4), "0101");
        due("no window of 1 goes over TICK 2", x.worst(1, 0), U / 2);
        due("no window of 1 goes over TICK 2", x.worst(1, 1), -U / 2);
        says("the greatest (what 0),");
        DeadlineShare y = joined(1, 1, 1, 1);
        for (int i = 0; i < 3; i++) y.yields(0);
        y.ticks(3);
        dueText("ran", whoRan(y, 0, 3), "111");
        due("three TICKS", y.worst(1, 0), 3 * U / 2);
        due("one TICK at least", y.worst(0, 0), -U / 2);
        says("the least (1) of UNIT times SERVICE less SHARE.");
        due("three TICKS", y.worst(0, 1), -3 * U / 2);
        due("one TICK at least", y.worst(1, 1), U / 2);
        DeadlineShare z = joined(1, 1, 3, 1);
        z.ticks(8);
        dueText("ran", whoRan(z, 0, 8), "10111011");
        due("worst(0, 0): TICK 1, or TICKS 1 to 5", z.worst(0, 0), 3 * U / 4);
        due("worst(0, 1): TICKS 2 to 4", z.worst(0, 1), -3 * U / 4);
        due("worst(1, 0): TICKS 2 to 4", z.worst(1, 0), 3 * U / 4);
        due("worst(1, 1): TICK 1, or TICKS 1 to 5", z.worst(1, 1), -3 * U / 4);
        DeadlineShare full = joined(1, 1, 1, 1);
        ticks(full, 127);
        full.yields(1);
        full.ticks(1);
        dueText("ran", whoRan(full, 0, 2) + whoRan(full, 125, 128), "01100");
        due("a full LOG does not go round: TICKS 126 and 127", full.worst(0, 0), U);
        says("NOTHING (no such TASK, window; others).");
        due("worst(2, 0)", z.worst(2, 0), NOTHING);
        due("worst(-1, 1)", z.worst(-1, 1), NOTHING);
        due("worst(0, 2)", z.worst(0, 2), NOTHING);
        due("worst(0, -1)", z.worst(0, -1), NOTHING);
        due("worst(0, MAX)", z.worst(0, MAX), NOTHING);
        due("no TICK", joined(1, 1).worst(0, 0), NOTHING);
        z.task(1, 1);
        due("it never was ON", z.worst(2, 1), NOTHING);
        z.leave(0);
        ticks(z, 127);
        due("TICK 7 is still in the LOG", z.worst(0, 1), -U / 4);
        z.ticks(1);
        due("no longer", z.worst(0, 1), NOTHING);
    }

    // ------------------------------------------------------------ on paper

    /** 9,999 less this is TIME; the tasks are ON. */
    private static DeadlineShare late(int left, int... pairs) {
        DeadlineShare x = joined(pairs);
        ticks(x, 9_999 - left);
        return x;
    }

    private static void ahead() {
        at("31");
        says("On paper: who runs in the n-th TICK from now on (1 .. 60).");
        DeadlineShare x = joined(1, 1, 1, 1);
        due("ahead(1)", x.ahead(1), 0);
        due("ahead(2)", x.ahead(2), 1);
        due("ahead(60)", x.ahead(60), 1);
        due("ahead(59)", x.ahead(59), 0);
        due("nothing is done: time(3)", x.time(3), 0);
        due("SERVED", x.of(0, 4), 0);
        says("NONE (IDLE; TIME would be above 9,999; others).");
        due("ahead(0)", x.ahead(0), NONE);
        due("ahead(61)", x.ahead(61), NONE);
        due("ahead(-1)", x.ahead(-1), NONE);
        due("ahead(MAX)", x.ahead(MAX), NONE);
        due("ahead(MIN)", x.ahead(MIN), NONE);
        due("IDLE", new DeadlineShare().ahead(1), NONE);
        x = late(3, 1, 1);
        due("ahead(3): TIME 9,999", x.ahead(3), 0);
        due("ahead(4): TIME 10,000", x.ahead(4), NONE);
        x.ticks(3);
        due("ahead(1) at 9,999", x.ahead(1), NONE);
    }

    private static void finish() {
        at("32");
        says("On paper: in how many TICKS (500 at most, up to TIME 9,999) a TASK has no SCRIPT any more.");
        DeadlineShare x = joined(1, 9);
        script(x, 0, "run 1");
        due("1", x.finish(0), 1);
        script(x, 0, "run 50,again 9");
        due("500", x.finish(0), 500);
        due("nothing is done", x.of(0, 11), 50);
        x = late(7, 1, 9);
        script(x, 0, "run 7");
        due("at TIME 9,999", x.finish(0), 7);
        script(x, 0, "nap 3");
        due("in (a)", x.finish(0), 4);
        says("NONE (not by then; it has none; others).");
        x = late(7, 1, 9);
        script(x, 0, "run 8");
        due("at TIME 10,000", x.finish(0), NONE);
        x = joined(1, 9);
        script(x, 0, "run 50,again 9,run 1");
        due("501", x.finish(0), NONE);
        x.task(1, 1);
        due("it has none", x.finish(1), NONE);
        due("finish(2)", x.finish(2), NONE);
        due("finish(-1)", x.finish(-1), NONE);
        due("finish(MAX)", x.finish(MAX), NONE);
    }

    private static void dueRequests() {
        at("33");
        says("On paper: in how many TICKS (500 at most, up to TIME 9,999) REQUESTS of a TASK are more than now.");
        DeadlineShare x = joined(1, 2, 1, 3);
        due("0 1 0", x.due(0), 3);
        due("0 1 0 1 1", x.due(1), 5);
        due("nothing is done", x.of(0, 5), 0);
        x.ticks(4);
        due("more than now: 01 01 1 0 0", x.due(0) + 4, 7);
        x = late(7, 1, 7);
        x.yields(0);
        due("at TIME 9,999", x.due(0), 7);
        x = new DeadlineShare();
        x.task(1, 5);
        script(x, 0, "nap 99,again 4,run 99");
        due("five naps, five TICKS", x.due(0), 500);
        says("NONE (not by then; no such TASK).");
        x.slice(0, 6);
        due("501", x.due(0), NONE);
        x = late(7, 1, 8);
        x.yields(0);
        due("at TIME 10,000", x.due(0), NONE);
        x.leave(0);
        due("it is OFF", x.due(0), NONE);
        due("due(1)", x.due(1), NONE);
        due("due(-1)", x.due(-1), NONE);
        due("due(MAX)", x.due(MAX), NONE);
    }

    private static void least() {
        at("34");
        says("On paper: the least WEIGHT (TO WEIGH now, if it is another one;");
        DeadlineShare x = joined(4, 1, 4, 1);
        due("least(0, 4, 8): as it is", x.least(0, 4, 8), 4);
        due("least(0, 2, 10): a lesser one", x.least(0, 2, 10), 1);
        due("least(0, 8, 12): a greater one", x.least(0, 8, 12), 7);
        due("nothing is done", x.of(0, 0), 4);
        due("least(0, 8, 16): the greatest", joined(1, 1, 8, 1).least(0, 8, 16), 8);
        x = new DeadlineShare();
        x.task(5, 1);
        due("of one that is OFF", x.least(0, 0, 5), 1);
        x = yielded();
        due("1 runs at once", x.least(1, 4, 4), 1);
        x = joined(1, 1, 1, 1);
        x.yields(0);
        due("TO WEIGH keeps LAG: by 3 v is 2 U by 3, so 1 0 0", x.least(0, 2, 3), 3);
        says("those without room aside)");
        x = joined(1, 1, 8, 1, 8, 1, 6, 1);
        due("2 has room: 24", x.least(0, 2, 24), 2);
        due("3 has none: 25", x.least(0, 3, 24), NONE);
        says("with which a TASK runs in n (0 .. m) or more of the next m (1 .. 60) TICKS.");
        x = joined(1, 1, 1, 1);
        due("least(0, 0, 1)", x.least(0, 0, 1), 1);
        due("least(0, 1, 1)", x.least(0, 1, 1), 1);
        due("least(1, 1, 1)", x.least(1, 1, 1), 2);
        due("least(0, 30, 60)", x.least(0, 30, 60), 1);
        due("least(0, 31, 60)", x.least(0, 31, 60), 2);
        due("least(0, 60, 60) alone", joined(3, 1).least(0, 60, 60), 1);
        says("NONE (by none; TIME would be above 9,999; others).");
        due("by none", x.least(0, 60, 60), NONE);
        due("n above m", x.least(0, 6, 5), NONE);
        due("n below 0", x.least(0, -1, 5), NONE);
        due("m 0", x.least(0, 0, 0), NONE);
        due("m 61", x.least(0, 0, 61), NONE);
        due("m MAX", x.least(0, 0, MAX), NONE);
        due("n MIN", x.least(0, MIN, 5), NONE);
        due("least(2, 0, 5)", x.least(2, 0, 5), NONE);
        due("least(-1, 0, 5)", x.least(-1, 0, 5), NONE);
        x = late(3, 1, 1);
        due("TIME 9,999", x.least(0, 3, 3), 1);
        due("TIME 10,000", x.least(0, 0, 4), NONE);
    }

    private static void would() {
        at("35");
        says("On paper, n TICKS (1 .. 60) by a WAY 0 .. 4:");
        DeadlineShare x = joined(1, 1, 1, 1);
        for (int way = 0; way <= 4; way++) due("would(" + way + ", 1, 2)", x.would(way, 1, 2), 1);
        for (int way = 0; way < 4; way++) due("would(" + way + ", 60, 2): by turns", x.would(way, 60, 2), 60);
        due("nothing is done", x.time(3), 0);
        x = twelve("run 9");
        // by WAY 2 each has the first DEADLINE till its REQUEST is served
        int[] changes = {12, 12, 3, 12};
        for (int way = 0; way <= 3; way++) due("would(" + way + ", 12, 2) of twelve", x.would(way, 12, 2), changes[way]);
        due("would(4, 60, 3) of twelve", x.would(4, 60, 3), 0);
        x = joined(1, 1, 1, 1);
        says("of all LAGS of TASKS ON behind each of these (behind (d)) the greatest (what 0),");
        due("a half", x.would(0, 1, 0), 50);
        due("behind each: the second evens it", x.would(0, 2, 0), 50);
        DeadlineShare y = joined(1, 1, 1, 1);
        script(y, 1, "run 1");
        script(y, 0, "run 1");
        due("behind (d) 0 is OFF: 1 is alone", y.would(0, 1, 0), 0);
        DeadlineShare z = yielded();
        due("1 runs: LAG is 3 by 2 then", z.would(0, 1, 0), 150);
        says("the least (1),");
        due("less a half", x.would(0, 1, 1), -50);
        due("1 runs: LAG of 0", z.would(0, 1, 1), -150);
        due("behind (d)", y.would(0, 1, 1), 0);
        says("in hundredths of UNIT, cut (0 is among them);");
        DeadlineShare three = joined(1, 1, 1, 1, 1, 1);
        due("a third", three.would(0, 1, 0), 33);
        due("less two thirds", three.would(0, 1, 1), -67);
        due("none ON: 0", new DeadlineShare().would(0, 5, 0), 0);
        due("none ON: 0", new DeadlineShare().would(0, 5, 1), 0);
        due("alone: 0", joined(1, 1).would(0, 5, 0), 0);
        due("alone: 0", joined(1, 1).would(0, 5, 1), 0);
    }

    private static void wouldCounts() {
        says("how often another one ran than the one that ran last ahead of it (2; if none did, it counts, too);");
        DeadlineShare x = joined(1, 5);
        due("none did", x.would(0, 3, 2), 1);
        x.ticks(1);
        due("the same one", x.would(0, 3, 2), 0);
        x = joined(1, 5, 1, 5);
        x.ticks(1);
        x.leave(0);
        due("another one", x.would(0, 3, 2), 1);
        x = joined(1, 5);
        script(x, 0, "run 1,nap 2,again 5");
        x.ticks(1);
        due("over IDLE ones", x.would(0, 9, 2), 0);
        says("how many were IDLE (3).");
        due("..0..0..0", x.would(0, 9, 3), 6);
        due("none", joined(1, 1).would(0, 60, 3), 0);
        due("all", new DeadlineShare().would(4, 60, 3), 60);
        says("Integer.MIN_VALUE (TIME would be above 9,999; others).");
        int[][] wrong = {{-1, 1, 0}, {5, 1, 0}, {MAX, 1, 0}, {MIN, 1, 0}, {0, 0, 0}, {0, 61, 0}, {0, -1, 0}, {0, MAX, 0}, {0, 1, -1}, {0, 1, 4}, {0, 1, MIN}};
        for (int[] w : wrong) due("would(" + w[0] + ", " + w[1] + ", " + w[2] + ")", x.would(w[0], w[1], w[2]), REFUSED_ON_PAPER);
        x = late(3, 1, 1);
        due("TIME 9,999", x.would(0, 3, 3), 0);
        due("TIME 10,000", x.would(0, 4, 3), REFUSED_ON_PAPER);
    }

    // ------------------------------------------------------------ counts

    private static void count() {
        at("36");
        DeadlineShare x = four();
        says("0 TASKS,");
        due("count(0)", x.count(0), 4);
        due("all twelve", twelve("run 9").count(0), 12);
        says("1 how many are ON,");
        due("count(1)", x.count(1), 1);
        due("all twelve", twelve("run 9").count(1), 12);
        says("2 how many NAP,");
        due("count(2)", x.count(2), 1);
        due("all twelve", twelve("nap 9").count(2), 12);
        says("3 how many have a SCRIPT,");
        due("count(3)", x.count(3), 2);
        due("all twelve", twelve("run 9").count(3), 12);
        due("all twelve that NAP", twelve("nap 9").count(3), 12);
        x.leave(2);
        due("count(3)", x.count(3), 1);
        due("count(2)", x.count(2), 0);
        says("4 who ran last (NONE; IDLE ones aside),");
        due("count(4)", x.count(4), 1);
        due("none did", new DeadlineShare().count(4), NONE);
        x.leave(1);
        ticks(x, 40);
        due("IDLE ones aside", x.count(4), 1);
        ticks(x, 5);
        x.leave(3);
        ticks(x, 130);
        due("the LOG has none that was not IDLE", x.service(1, 50, 177), 0);
        due("count(4)", x.count(4), 1);
        says("5 TICKS in the LOG,");
        due("count(5)", x.count(5), 128);
        due("count(5)", four().count(5), 2);
        due("count(5)", new DeadlineShare().count(5), 0);
        says("6 how many can be undone,");
        due("none", new DeadlineShare().count(6), 0);
        due("two", joined(1, 1).count(6), 2);
        due("ten", x.count(6), 10);
        says("7 bytes of the TAPE,");
        due("count(7)", x.count(7), 0);
        x.feed(0, 0, 0, 0, 0);
        due("count(7)", x.count(7), 20);
        x.end(13);
        due("count(7)", x.count(7), 13);
    }

    /** Twelve of weight 2, each with this SCRIPT. */
    private static DeadlineShare twelve(String text) {
        DeadlineShare x = new DeadlineShare();
        for (int i = 0; i < 12; i++) script(x, x.task(2, 5), text);
        return x;
    }

    private static void countRefused() {
        says("8 .. 12 how many calls were REFUSED by -1, -2, -4, -5, -6,");
        DeadlineShare x = joined(8, 1, 8, 1, 8, 1);
        x.task(1, 1);
        for (int k = 8; k <= 12; k++) due("count(" + k + ") at first", x.count(k), 0);
        for (int i = 0; i < 5; i++) x.ticks(0);
        for (int i = 0; i < 4; i++) x.leave(9);
        for (int i = 0; i < 3; i++) x.join(0);
        for (int i = 0; i < 2; i++) x.join(3);
        x.script(0);
        x.feed(0, 0, 0, 0, 0);
        x.end(-1);
        x.ahead(0);
        x.of(9, 9);
        for (int k = 8; k <= 12; k++) due("count(" + k + ")", x.count(k), 13 - k);
        says("13 .. 15 TERMS 0 .. 2,");
        due("count(13)", x.count(13), 0);
        due("count(14)", x.count(14), 1);
        due("count(15)", x.count(15), 1);
        x.terms(0, 1);
        x.terms(1, 2);
        x.terms(2, 77);
        due("count(13)", x.count(13), 1);
        due("count(14)", x.count(14), 2);
        due("count(15)", x.count(15), 77);
        says("16 how many are THROTTLED.");
        due("count(16)", x.count(16), 0);
        DeadlineShare y = joined(1, 1, 1, 1);
        y.quota(0, 1, 60);
        y.quota(1, 1, 60);
        y.ticks(1);
        due("count(16)", y.count(16), 1);
        y.ticks(1);
        due("count(16)", y.count(16), 2);
        y.leave(0);
        due("count(16)", y.count(16), 1);
        says("NONE for others.");
        int[] whats = {-1, 17, MIN, MAX};
        for (int k : whats) due("count(" + k + ")", x.count(k), NONE);
    }

    /** A call that is REFUSED by a number, or (k even) one that is not. */
    private static int call(DeadlineShare x, int k) {
        switch (k) {
            case 0: return x.terms(0, 0);
            case 1: return x.terms(0, 2);
            case 2: return x.task(1, 1);
            case 3: return x.task(0, 1);
            case 4: return x.join(1);
            case 5: return x.join(1);
            case 6: return x.leave(1);
            case 7: return x.leave(1);
            case 8: return x.weigh(1, 8);
            case 9: return x.weigh(1, 8);
            case 10: return x.slice(1, 7);
            case 11: return x.slice(9, 7);
            case 12: return x.wish(1, 7);
            case 13: return x.wish(9, 7);
            case 14: return x.yields(0);
            case 15: return x.yields(1);
            case 16: return x.quota(1, 1, 9);
            case 17: return x.quota(1, 1, 1);
            case 18: return script(x, 0, "run 5");
            case 19: return script(x, 0, "run 500");
            case 20: return x.listing(0);
            case 21: return x.listing(1);
            case 22: return x.ticks(1);
            case 23: return x.ticks(61);
            case 24: return x.image(0);
            case 25: return x.image(7);
            case 26: return x.back(0);
            case 27: return x.back(1);
            case 28: x.yields(0); return x.undo();
            default: return x.undo();
        }
    }

    private static void status() {
        at("37");
        says("What the latest call of terms, task, join, leave, weigh, slice, wish, yields, quota, script, listing, ticks, undo, image, back was REFUSED by;");
        int[] by = {-1, -1, -4, -4, -4, -2, -2, -4, -1, -6, -4, -1, -1, -4, -4};
        DeadlineShare x = joined(1, 1);
        x.task(1, 2);
        for (int k = 0; k < 30; k++) {
            int answer = call(x, k);
            due("status() behind call " + k, x.status(), k % 2 == 1 ? by[k / 2] : 0);
            if (k % 2 == 1) due("call " + k, answer, by[k / 2]);
        }
        DeadlineShare full = joined(8, 1, 8, 1, 8, 1);
        full.task(1, 1);
        full.join(3);
        due("by -5", full.status(), -5);
        full.feed(0, 0, 0, 0, 0);
        full.end(0);
        full.end(-1);
        full.tape(0);
        full.fault();
        full.of(0, 0);
        full.exact(0, 0);
        full.time(0);
        full.service(9, 0, 0);
        full.ahead(0);
        full.ahead(1);
        full.least(9, 0, 0);
        full.would(9, 9, 9);
        full.count(8);
        due("other calls do not count", full.status(), -5);
        says("0 if it was not, or ahead of any.");
        due("ahead of any", new DeadlineShare().status(), 0);
        DeadlineShare y = new DeadlineShare();
        y.end(-1);
        y.of(0, 0);
        due("still ahead of any", y.status(), 0);
        full.leave(0);
        due("it was not", full.status(), 0);
        full.quota(0, 1, 9);
        due("an answer of -1 that is none: BUDGET was NONE", full.status(), 0);
    }
}
