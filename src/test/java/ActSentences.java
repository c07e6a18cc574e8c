/** Promises 1 to 20, what is done: each sentence by a test of its own. */
public final class ActSentences extends Sentences {
    private static final int MIN = Integer.MIN_VALUE;
    private static final int MAX = Integer.MAX_VALUE;

    public static void main(String[] args) {
        aNewObject();
        terms();
        feed();
        end();
        tape();
        task();
        join();
        leave();
        weigh();
        slice();
        wish();
        yields();
        quota();
        quotaOfThrottled();
        script();
        scriptRefused();
        listing();
        fault();
        ticks();
        undo();
        undoOfEach();
        undoTen();
        image();
        back();
        close();
    }

    /** All of the tasks, the time and the LOG that can be told, by some 100 calls. */
    private static String world(DeadlineShare x) {
        StringBuilder b = new StringBuilder();
        for (int t = 0; t < x.count(0); t++) {
            for (int k = 0; k < 15; k++) b.append(x.of(t, k)).append(' ');
            for (int k = 0; k < 4; k++) b.append(x.exact(t, k)).append(' ');
            for (int k = 0; k < 2; k++) b.append(x.worst(t, k)).append(' ');
        }
        for (int k = 0; k < 6; k++) b.append(x.count(k)).append(' ');
        for (int k = 0; k < 4; k++) b.append(x.time(k)).append(' ');
        for (int way = 0; way <= 4; way++) b.append(x.would(way, 9, 2)).append(' ').append(x.would(way, 9, 1)).append(' ');
        b.append(x.eligible()).append(' ').append(x.earliest(1)).append(' ').append(x.rank(0)).append(' ');
        return b.append(x.count(16)).append(' ').append(whoRan(x, 0, 12)).toString();
    }

    private static void aNewObject() {
        at("1");
        says("No task.");
        DeadlineShare x = new DeadlineShare();
        due("count(0)", x.count(0), 0);
        for (int k = 0; k < 15; k++) due("of(0, " + k + ")", x.of(0, k), NONE);
        for (int k = 1; k <= 3; k++) due("count(" + k + ")", x.count(k), 0);
        due("join(0)", x.join(0), -2);
        due("eligible()", x.eligible(), 0);
        due("task(1, 1)", x.task(1, 1), 0);
    }

    private static void terms() {
        at("2");
        says("A TERM: what it was.");
        DeadlineShare x = new DeadlineShare();
        due("terms(0, 1)", x.terms(0, 1), 0);
        due("terms(0, 1) as it is", x.terms(0, 1), 1);
        due("terms(1, 3)", x.terms(1, 3), 1);
        due("terms(1, 2)", x.terms(1, 2), 3);
        due("terms(2, 1000000)", x.terms(2, 1_000_000), 1);
        due("terms(2, 0)", x.terms(2, 0), 1_000_000);
        for (int k = 0; k < 3; k++) due("count(" + (13 + k) + ")", x.count(13 + k), new int[] {1, 2, 0}[k]);
        says("-1.");
        int[][] wrong = {{-1, 0}, {3, 0}, {MIN, 0}, {MAX, 0}, {0, -1}, {0, 2}, {1, -1}, {1, 4}, {2, -1}, {2, 1_000_001}, {2, MAX}, {1, MIN}};
        for (int[] w : wrong) due("terms(" + w[0] + ", " + w[1] + ")", x.terms(w[0], w[1]), -1);
        for (int k = 0; k < 3; k++) due("count(" + (13 + k) + ") stays", x.count(13 + k), new int[] {1, 2, 0}[k]);
        due("count(8)", x.count(8), wrong.length);
    }

    private static void feed() {
        at("3");
        says("Twenty bytes come behind the TAPE, four of each number, the highest first: how many it has.");
        DeadlineShare x = new DeadlineShare();
        due("feed", x.feed(0x01020304, -1, MIN, MAX, 0x00ff0080), 20);
        int[] bytes = {1, 2, 3, 4, 255, 255, 255, 255, 128, 0, 0, 0, 127, 255, 255, 255, 0, 255, 0, 128};
        for (int i = 0; i < 20; i++) due("tape(" + i + ")", x.tape(i), bytes[i]);
        x.end(3);
        due("feed behind 3", x.feed(5, 6, 7, 8, 9), 23);
        due("tape(2)", x.tape(2), 3);
        due("tape(3)", x.tape(3), 0);
        due("tape(6)", x.tape(6), 5);
        due("tape(22)", x.tape(22), 9);
        says("NONE, if there would be more than 200.");
        x = new DeadlineShare();
        for (int k = 1; k <= 9; k++) x.feed(k, k, k, k, k);
        due("up to 200", x.feed(10, 10, 10, 10, 10), 200);
        due("up to 220", x.feed(1, 2, 3, 4, 5), NONE);
        x.end(181);
        due("up to 201", x.feed(1, 2, 3, 4, 5), NONE);
        due("count(7) stays", x.count(7), 181);
        x.end(180);
        due("up to 200", x.feed(1, 2, 3, 4, 5), 200);
        due("not REFUSED", x.count(8), 0);
    }

    private static void end() {
        at("4");
        says("The TAPE has its first n bytes alone: n.");
        DeadlineShare x = new DeadlineShare();
        due("end(0) of an empty one", x.end(0), 0);
        x.feed(0x01020304, 0x05060708, 0, 0, 0);
        due("end(20)", x.end(20), 20);
        due("end(5)", x.end(5), 5);
        due("count(7)", x.count(7), 5);
        due("tape(4)", x.tape(4), 5);
        due("tape(5)", x.tape(5), NONE);
        due("end(0)", x.end(0), 0);
        due("tape(0)", x.tape(0), NONE);
        says("NONE, if it has not so many, or n is below 0.");
        x.feed(1, 1, 1, 1, 1);
        due("end(21)", x.end(21), NONE);
        due("end(-1)", x.end(-1), NONE);
        due("end(MAX)", x.end(MAX), NONE);
        due("end(MIN)", x.end(MIN), NONE);
        due("count(7) stays", x.count(7), 20);
        x.end(0);
        due("end(1) of an empty one", x.end(1), NONE);
        due("not REFUSED", x.count(8), 0);
    }

    private static void tape() {
        at("5");
        says("The TAPE's byte i.");
        DeadlineShare x = new DeadlineShare();
        x.feed(0x00017f80, 0xff000000, 0, 0, 7);
        int[] bytes = {0, 1, 127, 128, 255};
        for (int i = 0; i < 5; i++) due("tape(" + i + ")", x.tape(i), bytes[i]);
        due("tape(19)", x.tape(19), 7);
        says("NONE.");
        due("tape(20)", x.tape(20), NONE);
        due("tape(-1)", x.tape(-1), NONE);
        due("tape(MAX)", x.tape(MAX), NONE);
        due("tape(MIN)", x.tape(MIN), NONE);
        due("tape(0) of an empty one", new DeadlineShare().tape(0), NONE);
        for (int k = 0; k < 9; k++) x.feed(k, k, k, k, k);
        due("tape(199) of a full one", x.tape(199), 8);
        due("tape(200) of a full one", x.tape(200), NONE);
    }

    private static void task() {
        at("6");
        says("A TASK: its number.");
        DeadlineShare x = new DeadlineShare();
        due("task(1, 1)", x.task(1, 1), 0);
        due("task(8, 20)", x.task(8, 20), 1);
        int[] off = {8, 20, 0, NONE, 0, 0, 0, NONE, 0, NONE, NONE, NONE, NONE, 0, 0};
        for (int k = 0; k < off.length; k++) due("of(1, " + k + ")", x.of(1, k), off[k]);
        due("exact(1, 3)", x.exact(1, 3), 0);
        due("count(0)", x.count(0), 2);
        DeadlineShare y = joined(1, 5);
        y.image(0);
        y.task(2, 9);
        y.quota(1, 9, 10);
        script(y, 1, "run 99");
        y.yields(0);
        y.ticks(60);
        due("one that is LATE", y.of(1, 6) > 0 ? 1 : 0, 1);
        due("and has a LAG", y.exact(1, 3) == 0 ? 0 : 1, 1);
        y.back(0);
        due("behind one that is gone", y.task(8, 20), 1);
        for (int k = 0; k < off.length; k++) due("of(1, " + k + ") is its own", y.of(1, k), off[k]);
        due("exact(1, 3)", y.exact(1, 3), 0);
        says("-1;");
        int[][] wrong = {{0, 1}, {9, 1}, {1, 0}, {1, 21}, {-1, 1}, {1, -1}, {MIN, 1}, {1, MAX}};
        for (int[] w : wrong) due("task(" + w[0] + ", " + w[1] + ")", x.task(w[0], w[1]), -1);
        due("count(0) stays", x.count(0), 2);
        says("-5.");
        for (int i = 2; i < 12; i++) due("task " + i, x.task(3, 3), i);
        due("a 13th", x.task(3, 3), -5);
        due("count(0)", x.count(0), 12);
        due("count(11)", x.count(11), 1);
    }

    private static void join() {
        at("7");
        says("TO JOIN: W then.");
        DeadlineShare x = joined(3, 5);
        x.task(5, 5);
        due("join(1)", x.join(1), 8);
        due("of(1, 2)", x.of(1, 2), 1);
        due("of(1, 3)", x.of(1, 3), 5);
        due("exact(1, 0)", x.exact(1, 0), 0);
        says("-2;");
        due("join(2)", x.join(2), -2);
        due("join(-1)", x.join(-1), -2);
        due("join(12)", x.join(12), -2);
        due("join(MAX)", x.join(MAX), -2);
        due("join(MIN)", x.join(MIN), -2);
        says("-4 (it is not OFF, or SPENT);");
        due("it is ON", x.join(1), -4);
        script(x, 1, "nap 60,run 1");
        due("it NAPS", x.join(1), -4);
        due("it still NAPS", x.of(1, 2), 2);
        x.quota(0, 1, 60);
        x.ticks(1);
        due("it is THROTTLED", x.join(0), -4);
        x.quota(0, 2, 60);
        due("it is THROTTLED, though not SPENT", x.join(0), -4);
        x.quota(0, 1, 60);
        x.ticks(1);
        x.leave(0);
        due("it is SPENT", x.join(0), -4);
        due("it is still OFF", x.of(0, 2), 0);
        x.quota(0, 1, 60);
        due("not SPENT", x.join(0), 3);
        says("-5.");
        x = joined(8, 5, 8, 5, 7, 5);
        x.task(2, 5);
        due("25", x.join(3), -5);
        due("it is OFF", x.of(3, 2), 0);
        x.weigh(3, 1);
        due("24", x.join(3), 24);
    }

    private static void leave() {
        at("8");
        says("TO LEAVE (one that NAPS, is THROTTLED is just OFF then);");
        DeadlineShare x = yielded();
        x.leave(1);
        due("of(1, 2)", x.of(1, 2), 0);
        due("its LAG", x.exact(1, 3), 4 * U);
        x = yielded();
        script(x, 1, "nap 9,run 1");
        x.leave(0);
        due("leave(1) of one that NAPS", x.leave(1), 0);
        due("of(1, 2)", x.of(1, 2), 0);
        due("of(1, 9)", x.of(1, 9), NONE);
        due("its LAG is that of the nap", x.exact(1, 3), 4 * U);
        due("REST stays", x.time(0), 4 * U);
        x.ticks(10);
        due("it does not wake", x.of(1, 2), 0);
        x = joined(1, 4, 1, 4);
        x.quota(0, 1, 3);
        x.ticks(1);
        x.yields(1);
        due("leave(0) of one that is THROTTLED", x.leave(0), 1);
        due("of(0, 2)", x.of(0, 2), 0);
        due("its LAG is that of then", x.exact(0, 3), -U);
        x.ticks(4);
        due("it does not come again", x.of(0, 2), 0);
        says("it has no SCRIPT any more:");
        x = joined(1, 4, 1, 4, 1, 4);
        script(x, 0, "run 9");
        script(x, 1, "nap 9");
        x.quota(2, 1, 60);
        script(x, 2, "run 9");
        x.ticks(2);
        for (int t = 0; t < 3; t++) {
            due("of(" + t + ", 2)", x.of(t, 2), t + 1);
            x.leave(t);
            due("of(" + t + ", 10)", x.of(t, 10), NONE);
            due("listing(" + t + ")", x.listing(t), -4);
        }
        x.join(0);
        due("when it joins again", x.of(0, 10), NONE);
        says("W then.");
        x = joined(3, 5, 8, 5);
        due("leave(0)", x.leave(0), 8);
        due("leave(1)", x.leave(1), 0);
        says("-2;");
        due("leave(2)", x.leave(2), -2);
        due("leave(-1)", x.leave(-1), -2);
        due("leave(MAX)", x.leave(MAX), -2);
        says("-4 (it is OFF).");
        due("leave(1)", x.leave(1), -4);
        x.task(1, 1);
        due("it never was ON", x.leave(2), -4);
    }

    private static void weigh() {
        at("9");
        says("TO WEIGH: what it was.");
        DeadlineShare x = yielded();
        due("weigh(1, 2)", x.weigh(1, 2), 1);
        due("of(1, 0)", x.of(1, 0), 2);
        due("v", x.exact(1, 0), U);
        due("weigh(1, 8)", x.weigh(1, 8), 2);
        x.leave(0);
        due("weigh(0, 3)", x.weigh(0, 3), 1);
        says("-1;");
        due("weigh(0, 0)", x.weigh(0, 0), -1);
        due("weigh(0, 9)", x.weigh(0, 9), -1);
        due("weigh(0, MIN)", x.weigh(0, MIN), -1);
        due("weigh(0, MAX)", x.weigh(0, MAX), -1);
        says("-2;");
        due("weigh(2, 3)", x.weigh(2, 3), -2);
        due("weigh(-1, 3)", x.weigh(-1, 3), -2);
        due("weigh(MAX, 3)", x.weigh(MAX, 3), -2);
        says("-4 (it is so);");
        due("weigh(0, 3)", x.weigh(0, 3), -4);
        due("weigh(1, 8)", x.weigh(1, 8), -4);
        says("-5.");
        x = joined(8, 5, 8, 5, 1, 5, 5, 5);
        due("weigh(2, 4): 25", x.weigh(2, 4), -5);
        due("of(2, 0)", x.of(2, 0), 1);
        due("weigh(2, 3): 24", x.weigh(2, 3), 1);
        due("weigh(0, 1) is always room", x.weigh(0, 1), 8);
        x.leave(2);
        x.weigh(0, 8);
        due("weigh(2, 8) of one that is OFF", x.weigh(2, 8), 3);
    }

    private static void slice() {
        at("10");
        says("A SLICE: what it was.");
        DeadlineShare x = joined(1, 10);
        due("slice(0, 4)", x.slice(0, 4), 10);
        due("of(0, 1)", x.of(0, 1), 4);
        due("of(0, 3)", x.of(0, 3), 4);
        x.leave(0);
        due("slice(0, 20)", x.slice(0, 20), 4);
        due("of(0, 3)", x.of(0, 3), NONE);
        x.join(0);
        due("of(0, 3)", x.of(0, 3), 20);
        says("-1;");
        due("slice(0, 0)", x.slice(0, 0), -1);
        due("slice(0, 21)", x.slice(0, 21), -1);
        due("slice(0, MIN)", x.slice(0, MIN), -1);
        due("slice(0, MAX)", x.slice(0, MAX), -1);
        says("-2;");
        due("slice(1, 5)", x.slice(1, 5), -2);
        due("slice(-1, 5)", x.slice(-1, 5), -2);
        due("slice(MIN, 5)", x.slice(MIN, 5), -2);
        says("-4 (it is so).");
        due("slice(0, 20)", x.slice(0, 20), -4);
        x.ticks(5);
        due("whatever LEFT is", x.slice(0, 20), -4);
        due("LEFT", x.of(0, 3), 15);
    }

    private static void wish() {
        at("11");
        says("A SLICE by a wish to be served in n TICKS (1 .. 99):");
        DeadlineShare x = joined(1, 20);
        due("wish(0, 1)", x.wish(0, 1), 1);
        due("of(0, 1)", x.of(0, 1), 1);
        due("wish(0, 20)", x.wish(0, 20), 20);
        due("wish(0, 99)", x.wish(0, 99), 20);
        due("LEFT is not more", x.of(0, 3), 1);
        due("wish(0, 0)", x.wish(0, 0), -1);
        due("wish(0, 100)", x.wish(0, 100), -1);
        says("n times WEIGHT by W (with its WEIGHT, if it is not ON),");
        x = joined(2, 10, 3, 10);
        x.task(5, 10);
        due("ON: 18 by 5", x.wish(0, 9), 3);
        due("ON: 20 by 5", x.wish(0, 10), 4);
        due("OFF: 45 by 10", x.wish(2, 9), 4);
        due("OFF: 50 by 10", x.wish(2, 10), 5);
        x.quota(1, 1, 60);
        x.ticks(2);
        due("1 is THROTTLED", x.of(1, 2), 3);
        due("THROTTLED: 27 by 5", x.wish(1, 9), 5);
        script(x, 0, "nap 9");
        due("NAPPING, none ON: 18 by 2", x.wish(0, 9), 9);
        says("1 .. 20, the nearest:");
        x = joined(1, 10, 8, 10);
        due("8 by 9: 1", x.wish(0, 8), 1);
        due("9 by 9: 1", x.wish(0, 9), 1);
        due("1 by 9: 1", x.wish(0, 1), 1);
        due("17 by 9: 1", x.wish(0, 17), 1);
        due("18 by 9: 2", x.wish(0, 18), 2);
        due("184 by 9: 20", x.wish(1, 23), 20);
        due("176 by 9: 19", x.wish(1, 22), 19);
        due("792 by 9: 20", x.wish(1, 99), 20);
        says("that SLICE (also if it is so).");
        due("wish(1, 99)", x.wish(1, 99), 20);
        due("status()", x.status(), 0);
        due("undo()", x.undo(), 7);
        due("of(1, 1)", x.of(1, 1), 20);
        says("-1;");
        due("wish(0, -1)", x.wish(0, -1), -1);
        due("wish(0, MAX)", x.wish(0, MAX), -1);
        due("wish(0, MIN)", x.wish(0, MIN), -1);
        says("-2.");
        due("wish(2, 5)", x.wish(2, 5), -2);
        due("wish(-1, 5)", x.wish(-1, 5), -2);
        due("wish(MAX, 5)", x.wish(MAX, 5), -2);
    }

    private static void yields() {
        at("12");
        says("TO YIELD: what LEFT was.");
        DeadlineShare x = joined(2, 6, 2, 6);
        due("yields(1)", x.yields(1), 6);
        due("v is DEADLINE", x.exact(1, 0), 3 * U);
        due("LEFT is SLICE", x.of(1, 3), 6);
        x.ticks(5);
        due("yields(0)", x.yields(0), 1);
        due("v", x.exact(0, 0), 3 * U);
        due("LEFT", x.of(0, 3), 6);
        says("-2;");
        due("yields(2)", x.yields(2), -2);
        due("yields(-1)", x.yields(-1), -2);
        due("yields(MIN)", x.yields(MIN), -2);
        says("-4 (it is not ON).");
        x.leave(0);
        due("it is OFF", x.yields(0), -4);
        script(x, 0, "nap 9");
        due("it NAPS", x.yields(0), -4);
        x.quota(1, 1, 60);
        x.ticks(1);
        due("it is THROTTLED", x.yields(1), -4);
        due("of(1, 2)", x.of(1, 2), 3);
    }

    private static void quota() {
        at("13");
        says("A QUOTA n (1 .. 50) of a PERIOD (above n, 60 at most), BUDGET is n at once;");
        DeadlineShare x = joined(1, 5);
        due("quota(0, 1, 2)", x.quota(0, 1, 2), NONE);
        due("BUDGET", x.of(0, 12), 1);
        due("quota(0, 50, 51)", x.quota(0, 50, 51), 1);
        due("quota(0, 50, 60)", x.quota(0, 50, 60), 50);
        due("BUDGET", x.of(0, 12), 50);
        due("QUOTA", x.of(0, 13), 50);
        due("PERIOD", x.of(0, 14), 60);
        x.ticks(3);
        due("the same QUOTA", x.quota(0, 50, 60), 47);
        due("BUDGET", x.of(0, 12), 50);
        x.leave(0);
        due("of one that is OFF", x.quota(0, 2, 9), 50);
        due("BUDGET", x.of(0, 12), 2);
        says("n 0: none any more (PERIOD is not asked):");
        due("quota(0, 0, 61)", x.quota(0, 0, 61), 2);
        due("BUDGET", x.of(0, 12), NONE);
        due("QUOTA", x.of(0, 13), 0);
        due("PERIOD", x.of(0, 14), 0);
        due("quota(0, 0, MIN)", x.quota(0, 0, MIN), NONE);
        due("status()", x.status(), 0);
        says("what BUDGET was (NONE without).");
        due("without", x.quota(0, 3, 9), NONE);
        due("it was 3", x.quota(0, 4, 9), 3);
        x.join(0);
        x.ticks(4);
        due("it was 0", x.quota(0, 1, 9), 0);
        says("-1;");
        int[][] wrong = {{-1, 9}, {51, 60}, {50, 50}, {50, 61}, {1, 1}, {1, 0}, {5, 4}, {1, -9}, {MIN, 9}, {MAX, 9}, {1, MAX}};
        for (int[] w : wrong) due("quota(0, " + w[0] + ", " + w[1] + ")", x.quota(0, w[0], w[1]), -1);
        due("BUDGET stays", x.of(0, 12), 1);
        says("-2.");
        due("quota(1, 1, 9)", x.quota(1, 1, 9), -2);
        due("quota(1, 0, 0)", x.quota(1, 0, 0), -2);
        due("quota(-1, 1, 9)", x.quota(-1, 1, 9), -2);
    }

    private static void quotaOfThrottled() {
        says("(One that is THROTTLED JOINS in the next TICK at the soonest.)");
        DeadlineShare x = joined(1, 5);
        x.quota(0, 1, 60);
        x.ticks(2);
        x.quota(0, 3, 60);
        due("of(0, 2)", x.of(0, 2), 3);
        due("time(2)", x.time(2), 0);
        due("ticks(1)", x.ticks(1), 1);
        due("of(0, 2)", x.of(0, 2), 1);
        x = joined(8, 5);
        x.quota(0, 1, 60);
        x.ticks(1);
        for (int i = 1; i <= 3; i++) x.join(x.task(8, 5));
        x.quota(0, 0, 0);
        x.ticks(1);
        due("without room: not so soon", x.of(0, 2), 3);
        due("it is not SPENT, without a QUOTA", x.of(0, 12), NONE);
        x.leave(1);
        due("not ahead of a TICK", x.of(0, 2), 3);
        x.ticks(1);
        due("with room", x.of(0, 2), 1);
    }

    private static void script() {
        at("14");
        says("The TEXT on the TAPE (empty then, also if it can't be read)");
        DeadlineShare x = new DeadlineShare();
        x.task(1, 5);
        x.task(1, 5);
        due("script(0)", script(x, 0, "run 2,nap 3"), 2);
        due("count(7)", x.count(7), 0);
        due("script(1)", script(x, 1, "run 2;nap 3"), -6);
        due("count(7)", x.count(7), 0);
        due("tape(0)", x.tape(0), NONE);
        due("script(1) of an empty one", x.script(1), -6);
        says("is the SCRIPT of a TASK, which JOINS (OFF before)");
        due("of(0, 2)", x.of(0, 2), 1);
        due("of(1, 2): not read", x.of(1, 2), 0);
        x.listing(0);
        dueText("listing(0)", onTape(x), "run 2,nap 3");
        x = yielded();
        x.leave(1);
        script(x, 1, "run 1");
        due("by TO JOIN: v", x.exact(1, 0), 2 * U);
        due("LEFT", x.of(1, 3), 4);
        says("and it goes on at once, as ahead of a TICK:");
        x = new DeadlineShare();
        x.task(1, 5);
        x.ticks(7);
        script(x, 0, "weigh 3,slice 2,nap 4,run 1");
        due("of(0, 0)", x.of(0, 0), 3);
        due("of(0, 1)", x.of(0, 1), 2);
        due("of(0, 2)", x.of(0, 2), 2);
        due("of(0, 9): TIME and 4", x.of(0, 9), 11);
        due("time(3)", x.time(3), 7);
        says("how many STEPS.");
        x = joined(1, 5);
        due("1", script(x, 0, "run 1"), 1);
        due("8", script(x, 0, "run 1,run 2,run 3,run 4,run 5,run 6,run 7,run 8"), 8);
        due("those that hold nothing, too", script(x, 0, "slice 3,slice 4,again 1"), 3);
    }

    private static void scriptRefused() {
        says("-2,");
        DeadlineShare x = joined(8, 5, 8, 5, 7, 5);
        x.task(2, 5);
        x.task(1, 5);
        put(x, "run 1");
        due("script(5)", x.script(5), -2);
        due("script(-1)", x.script(-1), -2);
        due("script(MAX)", x.script(MAX), -2);
        due("the TAPE stays", x.count(7), 5);
        says("-4 (it is NAPPING, THROTTLED, or OFF and SPENT),");
        DeadlineShare y = joined(1, 5, 1, 5);
        script(y, 0, "nap 9");
        y.quota(1, 1, 60);
        y.ticks(1);
        put(y, "run 1");
        due("NAPPING", y.script(0), -4);
        due("THROTTLED", y.script(1), -4);
        y.leave(1);
        due("OFF and SPENT", y.script(1), -4);
        due("the TAPE stays", y.count(7), 5);
        due("OFF", y.of(1, 2), 0);
        y.quota(1, 1, 60);
        due("OFF, not SPENT", y.script(1), 1);
        says("-5 (it can't JOIN; the TAPE stays for these);");
        due("script(3): 25", x.script(3), -5);
        due("count(7)", x.count(7), 5);
        due("of(3, 2)", x.of(3, 2), 0);
        due("fault()", x.fault(), NONE);
        due("script(4): 24", x.script(4), 1);
        due("script(0) of one that is ON needs no room", script(x, 0, "run 1"), 1);
        says("-6.");
        due("script(0)", script(x, 0, "run"), -6);
        due("status()", x.status(), -6);
        due("count(12)", x.count(12), 1);
        due("its SCRIPT stays", x.of(0, 11), 1);
        says("One that is ON stays so, what held it does not.");
        x = joined(1, 5, 1, 5);
        script(x, 0, "run 9,nap 7");
        x.ticks(3);
        due("of(0, 11)", x.of(0, 11), 7);
        long v = x.exact(0, 0);
        due("script(0)", script(x, 0, "run 4"), 1);
        due("of(0, 2)", x.of(0, 2), 1);
        due("v", x.exact(0, 0), v);
        due("LEFT", x.of(0, 3), 3);
        due("of(0, 10)", x.of(0, 10), 0);
        due("of(0, 11)", x.of(0, 11), 4);
        due("of one without a SCRIPT", script(x, 1, "run 3"), 1);
        due("WAIT stays", x.of(1, 7), 1);
    }

    private static void listing() {
        at("15");
        says("The SCRIPT of a TASK is on the TAPE in place of all there was, a \",\" without blanks between STEPS, one blank in each: how many bytes.");
        DeadlineShare x = new DeadlineShare();
        x.task(1, 5);
        script(x, 0, "  run   7 , nap10,weigh 8 ,slice20,again 9  ");
        for (int i = 0; i < 10; i++) x.feed(1, 1, 1, 1, 1);
        due("listing(0)", x.listing(0), 37);
        dueText("the TAPE", onTape(x), "run 7,nap 10,weigh 8,slice 20,again 9");
        due("count(7)", x.count(7), 37);
        due("tape(37)", x.tape(37), NONE);
        due("once more", x.listing(0), 37);
        due("it can be read", x.script(0), 5);
        script(x, 0, "slice 20,slice 20,slice 20,slice 20,slice 20,slice 20,slice 20,run 99");
        due("the longest", x.listing(0), 69);
        script(x, 0, "run 99,nap 90,slice 19,slice 11,run 81,run 9");
        x.listing(0);
        dueText("the TAPE", onTape(x), "run 99,nap 90,slice 19,slice 11,run 81,run 9");
        script(x, 0, "run 1");
        due("the shortest", x.listing(0), 5);
        script(x, 0, "nap 9,run 5");
        due("of one that NAPS", x.listing(0), 11);
        says("-2;");
        due("listing(1)", x.listing(1), -2);
        due("listing(-1)", x.listing(-1), -2);
        due("the TAPE stays", x.count(7), 11);
        says("-4 (it has none).");
        x.leave(0);
        due("listing(0)", x.listing(0), -4);
        due("the TAPE stays", x.count(7), 11);
        x.task(1, 1);
        due("listing(1)", x.listing(1), -4);
    }

    private static void fault() {
        at("16");
        says("The FAULT of the latest script() that was not REFUSED by -2, -4, -5;");
        DeadlineShare x = joined(8, 5, 8, 5, 8, 5);
        x.task(1, 5);
        script(x, 0, "run 1,?");
        due("fault()", x.fault(), 6);
        script(x, 9, "run");
        due("by -2", x.fault(), 6);
        script(x, 3, "run");
        due("by -5", x.fault(), 6);
        script(x, 0, "nap 9");
        due("that has none", x.fault(), NONE);
        script(x, 1, "nap");
        due("the latest", x.fault(), 3);
        script(x, 0, "run 1");
        due("by -4", x.fault(), 3);
        x.undo();
        due("behind an undo()", x.fault(), 3);
        script(x, 1, "");
        due("an empty TEXT", x.fault(), 0);
        says("NONE without one, ahead of any.");
        due("ahead of any", new DeadlineShare().fault(), NONE);
        due("script(1)", script(x, 1, "run 1"), 1);
        due("without one", x.fault(), NONE);
    }

    private static void ticks() {
        at("17");
        says("n TICKS (1 .. 60): how many were not IDLE.");
        DeadlineShare x = joined(1, 5);
        due("ticks(1)", x.ticks(1), 1);
        due("ticks(60)", x.ticks(60), 60);
        due("time(3)", x.time(3), 61);
        x.leave(0);
        due("ticks(60)", x.ticks(60), 0);
        script(x, 0, "run 2,nap 3,run 1");
        due("ticks(10)", x.ticks(10), 3);
        says("-1;");
        due("ticks(0)", x.ticks(0), -1);
        due("ticks(61)", x.ticks(61), -1);
        due("ticks(-1)", x.ticks(-1), -1);
        due("ticks(MIN)", x.ticks(MIN), -1);
        due("ticks(MAX)", x.ticks(MAX), -1);
        due("time(3)", x.time(3), 131);
        says("-4 (TIME would be above 9,999).");
        x = joined(1, 5);
        ticks(x, 9_940);
        due("ticks(60): 10,000", x.ticks(60), -4);
        due("time(3)", x.time(3), 9_940);
        due("ticks(59): 9,999", x.ticks(59), 59);
        due("ticks(1): 10,000", x.ticks(1), -4);
        due("ran(9998)", x.ran(9_998), 0);
    }

    // ------------------------------------------------------------ undo, images

    /** Three that are ON in their midst: 0 with a SCRIPT, 1 with a QUOTA, 2 did YIELD; 3 is OFF, 4 NAPS. */
    private static DeadlineShare busy() {
        DeadlineShare x = joined(1, 4, 2, 3, 3, 5);
        x.task(2, 2);
        x.task(1, 6);
        script(x, 0, "run 3,nap 2,again 3");
        script(x, 4, "nap 40,run 1");
        x.quota(1, 3, 7);
        x.yields(2);
        x.ticks(9);
        return x;
    }

    private static int act(DeadlineShare x, int k) {
        switch (k) {
            case 0: return x.task(4, 4);
            case 1: return x.join(3);
            case 2: return x.leave(0);
            case 3: return x.weigh(2, 5);
            case 4: return x.slice(2, 1);
            case 5: return script(x, 2, "run 5,nap 5");
            case 6: return x.ticks(60);
            case 7: return x.wish(2, 7);
            case 8: return x.yields(2);
            default: return x.quota(2, 2, 9);
        }
    }

    private static void undoOfEach() {
        says("is undone (all but TERMS, the TAPE, FAULT, what is told of REFUSED calls is as it was): that.");
        for (int k = 0; k < 10; k++) {
            DeadlineShare x = busy();
            int kept = x.count(6);
            due("act " + k + " is not REFUSED", act(x, k) >= NONE ? x.status() : 1, 0);
            String fresh = world(busy());
            due("act " + k + " changes something", world(x).equals(fresh) ? 0 : 1, 1);
            due("undo()", x.undo(), k);
            dueText("all behind the undo() of act " + k, world(x), fresh);
            due("count(6)", x.count(6), Math.min(9, kept));
        }
        undoneTasks();
        undoneLog();
        DeadlineShare x = joined(1, 3, 1, 3);
        x.ticks(1);
        x.terms(0, 1);
        x.terms(1, 3);
        x.terms(2, 9);
        script(x, 0, "?");
        x.join(9);
        x.feed(1, 2, 3, 4, 5);
        due("undo()", x.undo(), 6);
        due("time(3)", x.time(3), 0);
        for (int k = 13; k < 16; k++) due("TERMS stay: count(" + k + ")", x.count(k), new int[] {1, 3, 9}[k - 13]);
        due("the TAPE stays", x.count(7), 20);
        due("FAULT stays", x.fault(), 0);
        due("REFUSED calls stay told: count(9)", x.count(9), 1);
        due("count(12)", x.count(12), 1);
        due("the TICK did not run: MODE 1", x.ahead(1), 0);
        says("-4 there is none.");
        due("undo() of nothing", new DeadlineShare().undo(), -4);
        for (int i = 0; i < 4; i++) due("undo()", x.undo(), 1 - i % 2);
        due("undo() behind the last", x.undo(), -4);
        due("status()", x.status(), -4);
        due("count(10)", x.count(10), 1);
    }

    private static void undoneTasks() {
        DeadlineShare x = joined(1, 5);
        x.task(8, 1);
        x.join(1);
        script(x, 1, "run 9");
        x.ticks(2);
        for (int i = 0; i < 4; i++) due("undo()", x.undo(), new int[] {6, 5, 1, 0}[i]);
        dueText("all without the TASK", world(x), world(joined(1, 5)));
        x.task(8, 1);
        script(x, 1, "nap 9");
        for (int i = 0; i < 2; i++) x.undo();
        dueText("all without the TASK that did NAP", world(x), world(joined(1, 5)));
    }

    private static void undoneLog() {
        DeadlineShare x = joined(1, 1, 1, 1);
        ticks(x, 131);
        x.ticks(60);
        x.undo();
        dueText("the LOG", whoRan(x, 2, 13), ".1010101010");
        due("service(0, 3, 131)", x.service(0, 3, 131), 64);
        x = joined(1, 5);
        x.ticks(3);
        x.leave(0);
        x.join(0);
        x.ticks(2);
        x.leave(0);
        due("REST", x.time(0), 5 * U);
        for (int i = 0; i < 3; i++) x.undo();
        due("REST as it was", x.time(0), 3 * U);
    }

    private static void undo() {
        at("18");
        says("The latest task() (told as 0), join() (1), leave() (2), weigh() (3), slice() (4), script() (5), ticks() (6), wish() (7), yields() (8), quota() (9)");
        for (int k = 0; k < 10; k++) {
            DeadlineShare x = busy();
            act(x, k);
            due("undo() of act " + k, x.undo(), k);
        }
        DeadlineShare x = joined(1, 3);
        x.terms(0, 1);
        x.feed(1, 1, 1, 1, 1);
        x.end(0);
        x.image(0);
        x.ahead(3);
        x.would(1, 3, 0);
        due("what is none of these is not undone", x.undo(), 1);
        says("that was not REFUSED");
        x = joined(1, 3);
        x.task(9, 9);
        x.join(0);
        x.leave(7);
        x.weigh(0, 1);
        x.slice(0, 3);
        script(x, 0, "?");
        x.ticks(0);
        x.wish(0, 0);
        x.yields(7);
        x.quota(0, 1, 1);
        due("count(6)", x.count(6), 2);
        due("undo()", x.undo(), 1);
        due("undo()", x.undo(), 0);
    }

    private static void undoTen() {
        says("(10 are kept)");
        DeadlineShare x = joined(1, 3);
        for (int i = 0; i < 8; i++) x.ticks(1);
        due("count(6)", x.count(6), 10);
        due("undo() of the 10th", x.undo(), 6);
        x.ticks(1);
        x.yields(0);
        due("an 11th", x.count(6), 10);
        due("undo()", x.undo(), 8);
        for (int i = 0; i < 8; i++) due("undo()", x.undo(), 6);
        due("the 10th", x.undo(), 1);
        due("the first is not kept", x.undo(), -4);
        due("it stands", x.count(0), 1);
        for (int i = 0; i < 25; i++) x.ticks(1 + i % 2);
        due("round: count(6)", x.count(6), 10);
        due("time(3)", x.time(3), 37);
        for (int i = 0; i < 10; i++) x.undo();
        due("time(3)", x.time(3), 22);
        due("no more", x.undo(), -4);
    }

    private static void image() {
        at("19");
        says("IMAGE k (0, 1) is kept, of all");
        DeadlineShare x = busy();
        String fresh = world(x);
        x.image(1);
        for (int k = 0; k < 10; k++) act(x, k);
        x.back(1);
        dueText("all behind back(1)", world(x), fresh);
        x = busy();
        x.image(0);
        for (int k = 9; k >= 0; k--) act(x, k);
        x.image(1);
        x.back(0);
        dueText("all behind back(0)", world(x), fresh);
        x = joined(1, 1, 1, 1);
        ticks(x, 131);
        x.image(0);
        x.leave(0);
        ticks(x, 60);
        x.back(0);
        dueText("the LOG", whoRan(x, 2, 13), ".1010101010");
        due("service(0, 3, 131)", x.service(0, 3, 131), 64);
        x = joined(1, 5);
        x.ticks(3);
        x.leave(0);
        x.image(1);
        x.join(0);
        x.ticks(2);
        x.leave(0);
        x.back(1);
        due("REST", x.time(0), 3 * U);
        x.image(0);
        x.ticks(4);
        x.undo();
        due("an undo() does not touch it", x.back(1), 3);
        due("nor the other one", x.back(0), 3);
        says("but TERMS, the TAPE, FAULT, what is told of REFUSED calls, what can be undone:");
        x = joined(1, 5);
        x.image(0);
        x.terms(1, 3);
        x.ticks(2);
        script(x, 0, "?");
        x.feed(1, 1, 1, 1, 1);
        x.join(0);
        due("what can be undone is as it was", x.count(6), 3);
        x.image(1);
        due("and stays so", x.count(6), 3);
        x.back(0);
        due("TERMS", x.count(14), 3);
        due("the TAPE", x.count(7), 20);
        due("FAULT", x.fault(), 0);
        due("REFUSED by -4", x.count(10), 1);
        due("REFUSED by -6", x.count(12), 1);
        due("it can't be undone", x.count(6), 0);
        says("TIME.");
        due("image(0)", x.image(0), 0);
        x.ticks(7);
        due("image(0) once more", x.image(0), 7);
        due("image(1)", x.image(1), 7);
        says("-1.");
        due("image(-1)", x.image(-1), -1);
        due("image(2)", x.image(2), -1);
        due("image(MAX)", x.image(MAX), -1);
        due("image(MIN)", x.image(MIN), -1);
    }

    private static void back() {
        at("20");
        says("Back to IMAGE k: TIME then;");
        DeadlineShare x = joined(1, 5);
        x.ticks(3);
        x.image(0);
        x.ticks(4);
        x.image(1);
        x.task(1, 1);
        x.leave(0);
        due("back(0)", x.back(0), 3);
        due("time(3)", x.time(3), 3);
        due("count(0)", x.count(0), 1);
        due("of(0, 2)", x.of(0, 2), 1);
        due("count(5)", x.count(5), 3);
        due("ran(3)", x.ran(3), NONE);
        due("back(1)", x.back(1), 7);
        due("SERVED", x.of(0, 4), 7);
        x.ticks(60);
        due("back(1) once more", x.back(1), 7);
        due("ran(6)", x.ran(6), 0);
        due("ran(7)", x.ran(7), NONE);
        says("nothing can be undone then.");
        due("count(6)", x.count(6), 0);
        due("undo()", x.undo(), -4);
        x.yields(0);
        x.ticks(1);
        due("but what comes behind it", x.undo(), 6);
        due("undo()", x.undo(), 8);
        due("undo()", x.undo(), -4);
        says("-1;");
        due("back(-1)", x.back(-1), -1);
        due("back(2)", x.back(2), -1);
        due("back(MAX)", x.back(MAX), -1);
        due("back(MIN)", x.back(MIN), -1);
        says("-4 (it was not kept).");
        x = joined(1, 5);
        due("back(0)", x.back(0), -4);
        x.image(0);
        due("back(1)", x.back(1), -4);
        due("what can be undone stays", x.count(6), 2);
        due("back(0)", x.back(0), 0);
    }
}
