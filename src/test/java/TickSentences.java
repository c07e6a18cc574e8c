/** Term III of the document (a TICK, the LOG, SCRIPTS): each sentence by a test of its own. */
public final class TickSentences extends Sentences {
    private static final String EIGHT = "run 1,nap 1,run 1,nap 1,run 1,nap 1,run 1,nap 1";

    public static void main(String[] args) {
        at("III");
        budgets();
        throttledOnes();
        nappingOnes();
        goesOnByMode();
        firstDeadline();
        whatRuns();
        waits();
        requests();
        intoTheLog();
        behindTheRun();
        theLog();
        scriptTexts();
        tokens();
        faults();
        runsAndNaps();
        weighsAndSlices();
        againAndEnd();
        close();
    }

    private static DeadlineShare alone(int slice, int quota, int period, String script) {
        DeadlineShare x = joined(1, slice);
        x.quota(0, quota, period);
        script(x, 0, script);
        return x;
    }

    // ------------------------------------------------------------ (a)

    private static void budgets() {
        says("A TICK: (a) of each TASK with a QUOTA of a PERIOD of which TIME is a multiple BUDGET is n.");
        DeadlineShare x = joined(1, 5);
        x.quota(0, 2, 5);
        x.ticks(11);
        dueText("at TIME 5 and 10", whoRan(x, 0, 11), "00...00...0");
        x = joined(1, 5);
        x.ticks(3);
        x.quota(0, 2, 4);
        x.ticks(6);
        dueText("at TIME 4 and 8, not 4 TICKS since", whoRan(x, 3, 9), "000..0");
        x = joined(1, 5, 1, 5);
        x.quota(0, 1, 2);
        x.quota(1, 1, 3);
        x.ticks(6);
        dueText("each by its own PERIOD", whoRan(x, 0, 6), "01010.");
        x = joined(1, 5);
        x.quota(0, 1, 3);
        x.ticks(1);
        x.leave(0);
        x.ticks(2);
        due("of one that is OFF, behind TIME 2", x.of(0, 12), 0);
        x.ticks(1);
        due("of one that is OFF, behind TIME 3", x.of(0, 12), 1);
        due("it is still OFF", x.of(0, 2), 0);
        x = alone(5, 2, 4, "run 2,nap 9");
        x.ticks(4);
        due("of one that NAPS, behind TIME 3", x.of(0, 12), 0);
        x.ticks(1);
        due("of one that NAPS, behind TIME 4", x.of(0, 12), 2);
        due("it still NAPS", x.of(0, 2), 2);
    }

    private static void throttledOnes() {
        says("Then TASK by TASK: one that is THROTTLED, not SPENT any more, JOINS (without room it stays THROTTLED);");
        DeadlineShare x = new DeadlineShare();
        for (int i = 0; i < 4; i++) x.task(8, 5);
        for (int i = 0; i < 2; i++) {
            x.quota(i, 1, 3);
            x.join(i);
        }
        x.ticks(2);
        dueText("both ran", whoRan(x, 0, 2), "01");
        x.join(2);
        x.join(3);
        x.ticks(1);
        for (int i = 0; i < 2; i++) due("SPENT: of(" + i + ", 2)", x.of(i, 2), 3);
        x.ticks(1);
        due("0 has come: its SHARE", x.share(0, 3, 4), U / 3);
        due("1 has no room", x.of(1, 2), 3);
        due("though it is not SPENT", x.of(1, 12), 1);
        due("its SHARE", x.share(1, 3, 4), 0);
        x.leave(2);
        x.ticks(1);
        due("with room it comes at once", x.share(1, 4, 5), U / 3);
        x = joined(1, 5);
        x.quota(0, 1, 60);
        x.ticks(3);
        x.quota(0, 2, 60);
        x.ticks(1);
        dueText("by a new QUOTA", whoRan(x, 0, 4), "0..0");
        x = joined(1, 5);
        x.quota(0, 1, 60);
        x.ticks(3);
        x.quota(0, 0, 0);
        x.ticks(2);
        dueText("without a QUOTA", whoRan(x, 0, 5), "0..00");
    }

    /** 2 and 3 are ON, 0 and 1 (all of weight 8) have these SCRIPTS; then 4 TICKS. */
    private static DeadlineShare roomForOne(String script0, String script1) {
        DeadlineShare x = new DeadlineShare();
        for (int i = 0; i < 4; i++) x.task(8, 5);
        script(x, 0, script0);
        script(x, 1, script1);
        x.join(2);
        x.join(3);
        x.ticks(4);
        return x;
    }

    /** 2 and 3 are ON, all of weight 8; at TIME 3 one is not SPENT any more, the other one NAPS no longer. */
    private static DeadlineShare oneOfEach(int throttled, int napping) {
        DeadlineShare x = new DeadlineShare();
        for (int i = 0; i < 4; i++) x.task(8, 5);
        x.quota(throttled, 1, 3);
        x.join(throttled);
        x.ticks(1);
        script(x, napping, "nap 2,run 9");
        x.join(2);
        x.join(3);
        x.ticks(3);
        return x;
    }

    private static void nappingOnes() {
        says("one that NAPS till this TIME JOINS and its SCRIPT goes on");
        DeadlineShare x = new DeadlineShare();
        x.task(1, 5);
        script(x, 0, "nap 2,weigh 3,slice 2,run 1");
        x.ticks(2);
        due("it NAPS till 2", x.of(0, 2), 2);
        due("of(0, 0)", x.of(0, 0), 1);
        x.ticks(1);
        dueText("ran", whoRan(x, 0, 3), "..0");
        due("of(0, 0)", x.of(0, 0), 3);
        due("of(0, 1)", x.of(0, 1), 2);
        x = roomForOne("nap 3", "nap 3,run 5");
        due("0 joins and leaves, then 1 has room", x.share(1, 3, 4), U / 3);
        due("of(0, 2)", x.of(0, 2), 0);
        x = roomForOne("nap 3,run 5", "nap 3,run 5");
        due("0 joins", x.share(0, 3, 4), U / 3);
        due("then 1 has no room", x.of(1, 2), 2);
        DeadlineShare y = oneOfEach(0, 1);
        due("0 is THROTTLED no longer", y.share(0, 3, 4), U / 3);
        due("then 1 has no room to wake", y.of(1, 2), 2);
        y = oneOfEach(1, 0);
        due("0 wakes", y.share(0, 3, 4), U / 3);
        due("then 1 has no room: THROTTLED", y.of(1, 2), 3);
        says("(without room, or if it is SPENT, it NAPS till TIME and 1 more).");
        due("of(1, 9) behind TIME 3", x.of(1, 9), 4);
        x.ticks(1);
        due("of(1, 9) behind TIME 4", x.of(1, 9), 5);
        x.leave(2);
        x.ticks(1);
        due("of(1, 2) with room", x.of(1, 2), 1);
        x = alone(3, 2, 5, "run 2,nap 1,run 5");
        int[] till = {3, 3, 4, 5};
        x.ticks(1);
        for (int i = 0; i < 4; i++) {
            x.ticks(1);
            due("SPENT: of(0, 9) behind TIME " + (1 + i), x.of(0, 9), till[i]);
        }
        x.ticks(1);
        dueText("not SPENT: it runs at TIME 5", whoRan(x, 0, 6), "00...0");
    }

    // ------------------------------------------------------------ (b)

    private static DeadlineShare byModeOne(int... pairs) {
        DeadlineShare x = joined(pairs);
        x.terms(0, 1);
        return x;
    }

    private static void goesOnByMode() {
        says("(b) By MODE 1 the one that ran in the TICK ahead runs,");
        DeadlineShare x = byModeOne(1, 3, 1, 3);
        x.ticks(7);
        dueText("ELIGIBLE or not", whoRan(x, 0, 7), "0001110");
        x = joined(1, 3, 1, 3);
        x.ticks(1);
        due("by MODE 0", x.ahead(1), 1);
        x.terms(0, 1);
        due("by MODE 1, from now on", x.ahead(1), 0);
        x = byModeOne(1, 3);
        x.task(8, 1);
        x.ticks(1);
        x.join(1);
        due("one with an earlier DEADLINE came", x.ahead(1), 0);
        x.terms(0, 0);
        due("by MODE 0", x.ahead(1), 1);
        says("if that did not serve its REQUEST wholly");
        x = byModeOne(1, 1, 1, 1);
        x.ticks(4);
        dueText("SLICES of 1", whoRan(x, 0, 4), "0101");
        x = byModeOne(1, 3, 1, 3);
        x.ticks(1);
        x.slice(0, 1);
        x.ticks(2);
        dueText("one TICK is left by a new SLICE", whoRan(x, 0, 3), "001");
        x = byModeOne(1, 3, 1, 3);
        x.ticks(1);
        x.weigh(0, 8);
        due("a new WEIGHT serves nothing", x.ahead(1), 0);
        says("and it did not LEAVE or YIELD since.");
        x = byModeOne(1, 3, 1, 3);
        x.ticks(1);
        x.yields(0);
        due("it did YIELD", x.ahead(1), 1);
        x = byModeOne(1, 3, 1, 3, 1, 4);
        x.ticks(1);
        x.slice(2, 1);
        x.yields(1);
        due("another one did YIELD", x.ahead(1), 0);
        x.terms(0, 0);
        due("by MODE 0", x.ahead(1), 2);
        x = byModeOne(1, 3, 1, 3);
        x.ticks(1);
        x.leave(0);
        x.join(0);
        due("it did LEAVE and came again", x.ahead(1), 1);
        x = byModeOne(1, 3, 1, 3);
        x.ticks(1);
        x.leave(1);
        x.join(1);
        due("the other one did LEAVE", x.ahead(1), 0);
        x = byModeOne(1, 3, 1, 3);
        x.quota(0, 1, 60);
        x.ticks(1);
        x.quota(0, 0, 0);
        x.ticks(1);
        due("it was THROTTLED and is ON again", x.of(0, 2), 1);
        due("ran(1)", x.ran(1), 1);
    }

    private static void firstDeadline() {
        says("Or else the ELIGIBLE one with the first DEADLINE,");
        DeadlineShare x = joined(1, 9, 8, 1);
        x.ticks(10);
        dueText("1 has the first, but is not ELIGIBLE at TIME 1", whoRan(x, 0, 10), "1011111111");
        x = oneApart(9);
        due("DEADLINE of 0 is the first", x.exact(0, 1) < x.exact(1, 1) ? 1 : 0, 1);
        due("but it is above V by a half", x.ahead(1), 1);
        says("of like ones the lowest number.");
        x = joined(1, 5, 1, 5, 1, 5);
        x.ticks(4);
        dueText("ran", whoRan(x, 0, 4), "0120");
        x = joined(1, 2, 2, 4);
        due("DEADLINES of 2 U", x.ahead(1), 0);
        says("With none ON the TICK is IDLE.");
        x = joined(1, 5);
        x.ticks(1);
        x.leave(0);
        due("ticks(3)", x.ticks(3), 0);
        dueText("ran", whoRan(x, 0, 4), "0...");
        due("V is REST", x.time(0), U);
    }

    // ------------------------------------------------------------ (c)

    private static void whatRuns() {
        says("(c) It runs: v is UNIT by WEIGHT more, SERVED is 1 more,");
        for (int w = 1; w <= 8; w++) {
            DeadlineShare x = joined(w, 2);
            x.task(w, 2);
            x.ticks(3);
            due("v by weight " + w, x.exact(0, 0), 3 * (U / w));
            due("SERVED", x.of(0, 4), 3);
            due("SERVED of another one", x.of(1, 4), 0);
        }
        says("BUDGET (if it has a QUOTA) 1 less,");
        DeadlineShare x = joined(1, 5, 1, 5);
        x.quota(0, 5, 60);
        x.ticks(1);
        due("of(0, 12)", x.of(0, 12), 4);
        due("of(1, 12)", x.of(1, 12), NONE);
        x.quota(1, 5, 60);
        x.ticks(1);
        due("0 did not run", x.of(0, 12), 4);
        due("1 ran", x.of(1, 12), 4);
        says("LEFT is 1 less.");
        due("of(0, 3)", x.of(0, 3), 4);
        due("of(1, 3)", x.of(1, 3), 4);
        x.ticks(1);
        due("of(0, 3)", x.of(0, 3), 3);
        due("of(1, 3)", x.of(1, 3), 4);
    }

    private static void waits() {
        says("its WAIT is 0, that of all others that are ON 1 more");
        DeadlineShare x = joined(1, 1, 1, 1, 1, 1);
        x.task(1, 1);
        x.ticks(2);
        int[] wait = {1, 0, 2, NONE};
        for (int t = 0; t < 4; t++) due("of(" + t + ", 7)", x.of(t, 7), wait[t]);
        x.ticks(1);
        due("of(2, 7): it ran", x.of(2, 7), 0);
        due("of(0, 7)", x.of(0, 7), 2);
        says("(999 at most;");
        x = joined(1, 20, 8, 20);
        for (int i = 0; i < 60; i++) x.yields(0);
        ticks(x, 998);
        due("behind 998 TICKS", x.of(0, 7), 998);
        x.ticks(1);
        due("behind 999 TICKS", x.of(0, 7), 999);
        x.ticks(1);
        due("behind 1,000 TICKS", x.of(0, 7), 999);
        due("LONGEST", x.of(0, 8), 999);
        x.ticks(60);
        due("behind 1,060 TICKS", x.of(0, 7), 999);
        due("of(1, 7)", x.of(1, 7), 0);
        says("LONGEST: the greatest it ever was),");
        x = joined(1, 1, 1, 1, 1, 1);
        x.ticks(3);
        int[] longest = {2, 1, 2};
        for (int t = 0; t < 3; t++) due("of(" + t + ", 8)", x.of(t, 8), longest[t]);
        x.leave(2);
        due("of(2, 8) when it is OFF", x.of(2, 8), 2);
        x.join(2);
        x.ticks(1);
        due("of(2, 8) when it came again", x.of(2, 8), 2);
    }

    private static void requests() {
        says("At LEFT 0: REQUESTS is 1 more;");
        DeadlineShare x = joined(1, 3);
        x.ticks(2);
        due("of(0, 5) at LEFT 1", x.of(0, 5), 0);
        x.ticks(1);
        due("of(0, 5)", x.of(0, 5), 1);
        x.ticks(3);
        due("of(0, 5)", x.of(0, 5), 2);
        says("if DEADLINE (v) is below V as it is then, LATE is 1 more;");
        due("alone: v is V", x.of(0, 6), 0);
        x = joined(1, 1, 1, 10);
        x.yields(1);
        x.ticks(1);
        due("U is below 11 U by 2", x.of(0, 6), 1);
        x.ticks(8);
        due("9 U is below 19 U by 2", x.of(0, 6), 9);
        x.ticks(1);
        due("10 U is V", x.of(0, 6), 9);
        due("REQUESTS", x.of(0, 5), 10);
        x = oneApart();
        due("below V by a half of 1", x.of(1, 6), 1);
        x = joined(1, 1, 1, 1);
        x.ticks(1);
        due("above V", x.of(0, 6), 0);
        x = joined(1, 2, 1, 20);
        x.yields(1);
        x.ticks(1);
        due("below V, but its REQUEST goes on", x.of(0, 6), 0);
        x.ticks(1);
        due("at its end", x.of(0, 6), 1);
        says("LEFT is SLICE.");
        x = joined(1, 3);
        x.ticks(3);
        due("of(0, 3)", x.of(0, 3), 3);
        x.ticks(1);
        x.slice(0, 5);
        x.ticks(2);
        due("as SLICE is now", x.of(0, 3), 5);
    }

    private static void intoTheLog() {
        says("The TICK is put into the LOG: who ran, W and WEIGHTS of all that were ON in (b).");
        DeadlineShare x = joined(1, 1, 1, 1);
        script(x, 0, "run 1,weigh 4,run 1,nap 9");
        x.ticks(4);
        dueText("ran", whoRan(x, 0, 4), "0101");
        due("0 was of WEIGHT 1 in TICK 0", x.share(0, 0, 1), U / 2);
        due("of 4 in TICK 1", x.share(0, 1, 2), 4 * (U / 5));
        due("it was ON in TICK 2 and NAPS since", x.share(0, 2, 3), 4 * (U / 5));
        due("not ON in TICK 3", x.share(0, 3, 4), 0);
        due("alone in TICK 3", x.share(1, 3, 4), U);
        x.weigh(1, 8);
        due("as it was then", x.share(1, 1, 2), U / 5);
        x = new DeadlineShare();
        x.task(1, 1);
        script(x, 0, "nap 1,run 5");
        x.ticks(2);
        due("IDLE", x.share(0, 0, 1), 0);
        due("it came in (a)", x.share(0, 1, 2), U);
        due("IDLE ones are TICKS, too", x.count(5), 2);
    }

    // ------------------------------------------------------------ (d)

    private static void behindTheRun() {
        says("(d) If the one that ran has a SCRIPT, that goes on.");
        DeadlineShare x = joined(1, 5, 1, 5);
        script(x, 0, "run 2,run 7");
        script(x, 1, "run 3");
        x.ticks(1);
        due("of(0, 11): it ran", x.of(0, 11), 1);
        due("of(1, 11): it did not", x.of(1, 11), 3);
        x.ticks(1);
        due("of(0, 11)", x.of(0, 11), 1);
        due("of(1, 11)", x.of(1, 11), 2);
        x.ticks(1);
        due("of(0, 10): the next STEP", x.of(0, 10), 1);
        due("of(0, 11)", x.of(0, 11), 7);
        says("Is it ON then and SPENT, it LEAVES and is THROTTLED (its SCRIPT stays as it is).");
        x = alone(5, 2, 60, "run 3,nap 1");
        x.ticks(1);
        due("one TICK of BUDGET is left", x.of(0, 2), 1);
        x.ticks(1);
        due("SPENT", x.of(0, 2), 3);
        due("REST: it did LEAVE", x.time(0), 2 * U);
        due("of(0, 10)", x.of(0, 10), 0);
        due("of(0, 11)", x.of(0, 11), 1);
        due("count(3)", x.count(3), 1);
        x = alone(5, 2, 60, "run 2,nap 5");
        x.ticks(2);
        due("it NAPS then: not ON", x.of(0, 2), 2);
        x = alone(5, 2, 60, "run 2");
        x.ticks(2);
        due("it is OFF then: not ON", x.of(0, 2), 0);
        x = alone(5, 2, 60, "run 2,weigh 3,run 4");
        x.ticks(2);
        due("its SCRIPT goes on first: of(0, 0)", x.of(0, 0), 3);
        due("of(0, 10)", x.of(0, 10), 2);
        due("of(0, 11)", x.of(0, 11), 4);
        due("of(0, 2)", x.of(0, 2), 3);
        says("TIME is 1 more.");
        due("time(3)", x.time(3), 2);
        x.ticks(1);
        due("behind an IDLE one", x.time(3), 3);
        due("ran(2)", x.ran(2), NONE);
        due("ran(1)", x.ran(1), 0);
    }

    // ------------------------------------------------------------ the LOG

    private static void theLog() {
        says("THE LOG keeps the last 128 TICKS.");
        DeadlineShare x = joined(1, 1, 1, 1);
        due("count(5)", x.count(5), 0);
        ticks(x, 127);
        due("count(5)", x.count(5), 127);
        x.ticks(1);
        due("count(5)", x.count(5), 128);
        due("ran(0)", x.ran(0), 0);
        due("service(0, 0, 128)", x.service(0, 0, 128), 64);
        x.ticks(1);
        due("count(5)", x.count(5), 128);
        due("ran(0)", x.ran(0), NONE);
        due("ran(1)", x.ran(1), 1);
        due("ran(128)", x.ran(128), 0);
        due("service(0, 0, 128)", x.service(0, 0, 128), NONE);
        due("service(0, 1, 129)", x.service(0, 1, 129), 64);
        ticks(x, 128);
        due("round once more: ran(128)", x.ran(128), NONE);
        due("ran(129)", x.ran(129), 1);
        due("ran(256)", x.ran(256), 0);
        due("ran(257)", x.ran(257), NONE);
        says("SERVICE of a TASK in TICKS a to b (without b): in how many of these it ran.");
        x = joined(1, 1, 3, 1);
        x.ticks(8);
        dueText("ran", whoRan(x, 0, 8), "10111011");
        due("service(0, 1, 2)", x.service(0, 1, 2), 1);
        due("service(0, 0, 1)", x.service(0, 0, 1), 0);
        due("service(0, 0, 5)", x.service(0, 0, 5), 1);
        due("service(0, 0, 6)", x.service(0, 0, 6), 2);
        due("service(1, 0, 8)", x.service(1, 0, 8), 6);
        due("service(0, 2, 5)", x.service(0, 2, 5), 0);
        says("SHARE: for each of these in which it was ON UNIT times its WEIGHT by W.");
        due("share(0, 0, 8)", x.share(0, 0, 8), 2 * U);
        due("share(1, 0, 8)", x.share(1, 0, 8), 6 * U);
        x.leave(0);
        x.ticks(2);
        due("share(0, 7, 10)", x.share(0, 7, 10), U / 4);
        due("share(1, 7, 10)", x.share(1, 7, 10), 3 * U / 4 + 2 * U);
    }

    // ------------------------------------------------------------ SCRIPTS

    /** FAULT of a text; NONE, if it is read. */
    private static void read(String text, int fault) {
        DeadlineShare x = new DeadlineShare();
        x.task(1, 5);
        int answer = script(x, 0, text);
        due("script() of '" + text + "' is REFUSED", answer == -6 ? 1 : 0, fault == NONE ? 0 : 1);
        due("fault() of '" + text + "'", x.fault(), fault);
    }

    private static void scriptTexts() {
        says("SCRIPTS: STEP {\",\" STEP}, 8 at most;");
        StringBuilder b = new StringBuilder();
        for (int steps = 1; steps <= 8; steps++) {
            b.append(steps == 1 ? "" : ",").append("run ").append(steps);
            DeadlineShare x = new DeadlineShare();
            x.task(1, 5);
            due("script() of '" + b + "'", script(x, 0, b.toString()), steps);
        }
        read(b + ",run 9", 48);
        read("", 0);
        read(",run 1", 0);
        read("run 1,", 6);
        read("run 1,,run 1", 6);
        read("run 1 run 1", 6);
        read("run 1;run 1", 5);
        says("STEP: \"run\" 1 .. 99 | \"nap\" 1 .. 99 | \"weigh\" 1 .. 8 | \"slice\" 1 .. 20 | \"again\" 1 .. 9.");
        String[] words = {"run", "nap", "weigh", "slice", "again"};
        int[] most = {99, 99, 8, 20, 9};
        for (int k = 0; k < 5; k++) {
            int place = words[k].length() + 1;
            read(words[k] + " 0", place);
            read(words[k] + " 1", NONE);
            read(words[k] + " " + most[k], NONE);
            read(words[k] + " " + (most[k] + 1), place);
        }
        for (String word : new String[] {"walk", "bun", "ran", "rub", "cap", "nip", "nab", "weigt", "splice", "slide", "agaim", "a", "z"}) {
            read(word + " 1", 0);
        }
    }

    private static void tokens() {
        says("TOKENS: longest rows of letters a .. z, of digits, single other bytes, any blanks (32) between.");
        read("run5,nap3", NONE);
        read("  run   5  ,   nap   3  ", NONE);
        read("ru n 5", 0);
        read("runs 5", 0);
        read("arun 5", 0);
        read("runz 5", 0);
        read("runnap 5", 0);
        read("Run 5", 0);
        read("rUn 5", 0);
        read("run 1 0", 6);
        read("run 5x", 5);
        read("run 90,run 09", NONE);
        for (int other : new int[] {0, 9, 10, '/', ':', '`', '{', 'A', 'Z', '-', '+', 127, 128, 160, 255}) {
            read("run" + (char) other + "5", 3);
            read("run 5" + (char) other, 5);
            read((char) other + "run 5", 0);
            read("run 5, " + (char) other + "nap 5", 7);
        }
    }

    private static void faults() {
        says("FAULT: the place of the first TOKEN that can't go on there");
        read("5", 0);
        read("run run 1", 4);
        read("run , 1", 4);
        read("run 1 2 3", 6);
        read("run 1, 2", 7);
        read("run 1 , stop 2, ?", 8);
        says("(a NUMBER that can't be,");
        read("run 100", 4);
        read("run 0", 4);
        read("run 000", 4);
        read("run   100 ?", 6);
        read("run 1,weigh 9", 12);
        read("run 4294967297", 4);
        read("run 18446744073709551617", 4);
        read("run 1" + "0".repeat(150), 4);
        says("the word of a 9th STEP;");
        read(EIGHT, NONE);
        read(EIGHT + "  ", NONE);
        read(EIGHT + ",run 1", 48);
        read(EIGHT + " ,  run 1", 51);
        read(EIGHT + ",run", 48);
        read(EIGHT + ",walk 1", 48);
        says("the TEXT's length, if it ends too soon).");
        read("", 0);
        read("   ", 3);
        read("run", 3);
        read("run  ", 5);
        read("run 1,", 6);
        read("run 1 , ", 8);
        read("run 1,nap", 9);
        read(EIGHT + ",", 48);
        read(EIGHT + ", ", 49);
    }

    private static void runsAndNaps() {
        says("A SCRIPT goes on: STEP by STEP, till one holds it:");
        DeadlineShare x = joined(1, 9);
        script(x, 0, "weigh 2,slice 3,weigh 4,slice 5,run 1,weigh 7,run 1");
        due("of(0, 0)", x.of(0, 0), 4);
        due("of(0, 1)", x.of(0, 1), 5);
        due("of(0, 10)", x.of(0, 10), 4);
        x.ticks(1);
        due("of(0, 0)", x.of(0, 0), 7);
        due("of(0, 10)", x.of(0, 10), 6);
        says("run n: it is held, till it ran in n TICKS since (it is ON);");
        for (int n : new int[] {1, 2, 99}) {
            x = joined(1, 9);
            script(x, 0, "run " + n + ",nap 1");
            due("of(0, 11)", x.of(0, 11), n);
            ticks(x, n - 1);
            due("it is held", x.of(0, 10), 0);
            due("of(0, 11)", x.of(0, 11), 1);
            due("it is ON", x.of(0, 2), 1);
            x.ticks(1);
            due("no longer", x.of(0, 10), 1);
        }
        x = joined(1, 9, 1, 9);
        x.ticks(3);
        script(x, 0, "run 2");
        due("not those of another one, nor those ahead of it: 1 0 1 0", x.finish(0), 4);
        says("nap n: it LEAVES and NAPS till TIME (in (d): the TIME that comes) and n more, it is held till it JOINS;");
        x = joined(1, 9);
        x.ticks(4);
        script(x, 0, "nap 3,run 2");
        due("ahead of TICK 4", x.of(0, 9), 7);
        due("time(2)", x.time(2), 0);
        due("of(0, 2)", x.of(0, 2), 2);
        x.ticks(3);
        due("it is held", x.of(0, 10), 0);
        x.ticks(1);
        due("it did JOIN in TICK 7", x.of(0, 10), 1);
        due("ran(7)", x.ran(7), 0);
        x = joined(1, 9);
        x.ticks(4);
        script(x, 0, "run 1,nap 3");
        x.ticks(1);
        due("in (d) of TICK 4", x.of(0, 9), 8);
        x = joined(1, 9);
        script(x, 0, "nap 2,nap 3,run 1");
        x.ticks(3);
        due("in (a) of TICK 2", x.of(0, 9), 5);
        due("of(0, 10)", x.of(0, 10), 1);
        x = joined(1, 9);
        script(x, 0, "nap 99");
        due("nap 99", x.of(0, 9), 99);
    }

    private static void weighsAndSlices() {
        says("weigh: as TO WEIGH, without room it stays as it is;");
        DeadlineShare x = yielded();
        script(x, 1, "weigh 2,run 1");
        due("of(1, 0)", x.of(1, 0), 2);
        due("v: 2 U less 2 U by 2", x.exact(1, 0), U);
        script(x, 1, "weigh 2,run 1");
        due("the same WEIGHT: of(1, 10)", x.of(1, 10), 1);
        due("v", x.exact(1, 0), U);
        x = joined(8, 5, 8, 5, 1, 5);
        script(x, 2, "weigh 8,run 1");
        due("24 is room enough", x.of(2, 0), 8);
        script(x, 2, "weigh 7,run 1");
        x.task(1, 5);
        x.join(3);
        due("W", x.time(2), 24);
        long v = x.exact(2, 0);
        script(x, 2, "weigh 8,run 1");
        due("25 is not: of(2, 0)", x.of(2, 0), 7);
        due("v", x.exact(2, 0), v);
        due("it goes on: of(2, 10)", x.of(2, 10), 1);
        script(x, 2, "weigh 8,weigh 6,run 1");
        due("down it has room", x.of(2, 0), 6);
        says("slice: a new SLICE;");
        x = joined(1, 9);
        x.ticks(3);
        script(x, 0, "slice 6,slice 20,run 1");
        due("of(0, 1)", x.of(0, 1), 20);
        due("LEFT", x.of(0, 3), 6);
        script(x, 0, "slice 2,slice 20,run 1");
        due("LEFT", x.of(0, 3), 2);
    }

    /** In how many TICKS it has no SCRIPT any more, alone. */
    private static void ends(String text, int ticks) {
        DeadlineShare x = joined(1, 9);
        script(x, 0, text);
        due("finish() of '" + text + "'", x.finish(0), ticks);
    }

    private static void againAndEnd() {
        says("again n: back to the STEP behind the again ahead of it (or to the first one), n times in all, then it goes on");
        ends("run 1,again 1", 2);
        ends("run 1,again 9", 10);
        ends("run 2,run 3,again 2", 15);
        ends("run 1,again 2,run 10,again 1", 23);
        ends("run 1,again 2,run 10,again 1,run 30", 53);
        ends("again 9,run 2", 2);
        ends("run 1,again 2,again 9,run 5", 8);
        ends("run 1,again 9,again 9,again 9,again 9,again 9,again 9,run 1", 11);
        ends("weigh 1,weigh 2,weigh 3,weigh 4,weigh 5,weigh 6,again 9,run 1", 1);
        ends("nap 1,run 1,again 1", 4);
        says("(when it comes to it anew, n times again).");
        DeadlineShare x = joined(1, 9);
        script(x, 0, "run 1,again 2");
        x.ticks(2);
        due("back once, once more to go", x.finish(0), 1);
        script(x, 0, "run 1,again 2");
        due("the same SCRIPT anew", x.finish(0), 3);
        x.ticks(3);
        script(x, 0, "run 1,again 2");
        due("and anew", x.finish(0), 3);
        says("Behind the last STEP it LEAVES and has no SCRIPT any more.");
        x = joined(1, 9, 1, 9);
        script(x, 0, "run 1");
        x.ticks(1);
        due("of(0, 2)", x.of(0, 2), 0);
        due("of(0, 10)", x.of(0, 10), NONE);
        due("its LAG is kept", x.exact(0, 3), -U);
        due("listing(0)", x.listing(0), -4);
        due("script() of STEPS that hold nothing", script(x, 1, "slice 3,weigh 2,again 4"), 3);
        due("of(1, 2)", x.of(1, 2), 0);
        due("of(1, 10)", x.of(1, 10), NONE);
        due("time(2)", x.time(2), 0);
        script(x, 1, "nap 2");
        x.ticks(2);
        due("a nap at last: it NAPS", x.of(1, 2), 2);
        x.ticks(1);
        due("it did JOIN and LEAVE", x.of(1, 2), 0);
        due("ran(3)", x.ran(3), NONE);
        due("count(3)", x.count(3), 0);
    }
}
