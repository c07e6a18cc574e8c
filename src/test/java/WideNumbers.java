/**
 * Runs in which every v is a long, but not all that is made of them: V times W, a LAG, a DEADLINE.
 * What is due was worked out with fractions of big numbers.
 */
public final class WideNumbers {
    private static int checks = 0;
    private static int wrong = 0;

    public static void main(String[] args) {
        whatStands();
        joinAheadOfV();
        joinBehindV();
        joinWithLittleTooMuch();
        weigh();
        served();
        would();
        copies();
        deadlineBeyondLong();
        System.out.println(wrong == 0 ? checks + " checks of wide numbers are fine" : wrong + " of " + checks + " checks are wrong");
        if (wrong != 0) System.exit(1);
    }

    private static void due(int promise, String call, long got, long want) {
        checks++;
        if (got != want) {
            wrong++;
            System.out.println("promise " + promise + ": " + call + " answered " + got + ", due is " + want);
        }
    }

    /** Three of which 0 yields, then rounds in each of which their v come about twice as far apart. */
    static DeadlineShare driven(int yields, int rounds) {
        DeadlineShare x = new DeadlineShare();
        for (int i = 0; i < 3; i++) x.task(1, 20);
        for (int i = 0; i < 3; i++) x.join(i);
        for (int i = 0; i < yields; i++) x.yields(0);
        for (int i = 0; i < 2 * rounds; i++) {
            int out = 1 + i % 2, stays = 3 - out;
            x.weigh(stays, 8);
            x.weigh(0, 1);
            x.leave(out);
            x.weigh(stays, 1);
            x.weigh(0, 8);
            x.join(out);
        }
        return x;
    }

    private static void whatStands() {
        DeadlineShare x = driven(10, 23);
        long[] v = {1042349558520780017L, -4403783544299832124L, -2743753225997585483L};
        for (int i = 0; i < 3; i++) due(22, "exact(" + i + ", 0)", x.exact(i, 0), v[i]);
        due(23, "time(0)", x.time(0), 119125969786882252L);
        due(23, "time(1)", x.time(1), 9);
        due(24, "eligible()", x.eligible(), 6);
        due(25, "earliest(0)", x.earliest(0), 1);
        due(25, "earliest(1)", x.earliest(1), 2);
        due(25, "earliest(2)", x.earliest(2), -1);
        DeadlineShare y = driven(10, 20);
        due(22, "exact(0, 2)", y.exact(0, 2), -8938251337516411848L);
        due(22, "exact(1, 2)", y.exact(1, 2), 5473606625074481819L);
        y.leave(0);
        due(22, "exact(0, 3)", y.exact(0, 3), -8938251337516411848L);
    }

    /** With a LAG above 0, by each CARRY. */
    private static void joinAheadOfV() {
        long[] v = {437223658207378668L, -2425655537577089068L, 437223551122801068L, 437223658207378668L};
        for (int carry = 0; carry <= 3; carry++) {
            DeadlineShare x = driven(10, 23);
            x.leave(2);
            x.terms(1, carry);
            x.join(2);
            due(7, "v by CARRY " + carry, x.exact(2, 0), v[carry]);
        }
    }

    private static void joinBehindV() {
        long[] v = {-3573768385148708804L, -2650544796414811040L, -3573768371763136604L, -2650544796414811040L};
        for (int carry = 0; carry <= 3; carry++) {
            DeadlineShare x = driven(10, 23);
            x.leave(0);
            x.terms(1, carry);
            x.join(0);
            due(7, "v by CARRY " + carry, x.exact(0, 0), v[carry]);
        }
    }

    /** LAG times W is above what CARRY 2 leaves of it by less than 2 to the 32nd. */
    private static void joinWithLittleTooMuch() {
        long unit = 5_354_228_880L;
        for (int way = 0; way < 2; way++) {
            DeadlineShare x = new DeadlineShare();
            x.task(1, 1);
            x.task(2, 1);
            x.join(0);
            x.join(1);
            for (int i = 0; i < 4; i++) x.yields(1);
            x.weigh(1, 1);
            x.terms(1, 2);
            x.leave(way);
            due(22, "exact(" + way + ", 3)", x.exact(way, 3), way == 0 ? 8 * unit / 3 : -8 * unit / 3);
            x.join(way);
            due(7, "v", x.exact(way, 0), way == 0 ? 5 * unit / 3 : unit);
        }
    }

    private static void weigh() {
        DeadlineShare x = driven(10, 23);
        int[] weights = {4, 3, 7};
        long[] v = {1965573147254677781L, 2581055539743942957L, 1174238642625622554L};
        for (int i = 0; i < 3; i++) {
            x.weigh(0, weights[i]);
            due(9, "v behind weigh(0, " + weights[i] + ")", x.exact(0, 0), v[i]);
            due(23, "time(0) is as it was", x.time(0), 119125969786882252L);
        }
    }

    private static void served() {
        DeadlineShare x = driven(10, 23);
        x.slice(1, 1);
        due(31, "ahead(1)", x.ahead(1), 1);
        due(33, "due(1)", x.due(1), 1);
        x.ticks(1);
        due(27, "ran(0)", x.ran(0), 1);
        due(21, "LATE, far below V", x.of(1, 6), 1);
        due(23, "time(0)", x.time(0), 119125970322305140L);
        x.leave(1);
        x.leave(2);
        x.terms(1, 0);
        x.slice(0, 1);
        x.ticks(1);
        due(21, "not LATE, V is v", x.of(0, 5) * 10 + x.of(0, 6), 10);
    }

    private static void would() {
        DeadlineShare x = driven(10, 15);
        x.weigh(1, 8);
        x.weigh(2, 8);
        due(35, "would(0, 3, 0)", x.would(0, 3, 0), 302693219);
        due(35, "would(0, 3, 1)", x.would(0, 3, 1), -494289904);
    }

    /** A LAG that is wide is taken back, and stands in an image, as a whole. */
    private static void copies() {
        DeadlineShare x = driven(10, 23);
        x.leave(0);
        x.image(0);
        x.join(0);
        x.leave(0);
        x.undo();
        x.undo();
        x.join(0);
        due(18, "v behind undo()", x.exact(0, 0), -2650544796414811040L);
        x.back(0);
        x.join(0);
        due(20, "v behind back(0)", x.exact(0, 0), -2650544796414811040L);
    }

    /** 0 and 1 have the last v but some: the DEADLINE of 0 is above all longs, that of 1 is not. */
    private static void deadlineBeyondLong() {
        DeadlineShare x = driven(8, 24);
        int[][] weighs = {{1, 1}, {1, 7}, {1, 8}, {0, 3}};
        for (int[] w : weighs) x.weigh(w[0], w[1]);
        x.leave(2);
        x.weigh(0, 8);
        x.weigh(0, 2);
        x.yields(0);
        x.weigh(2, 4);
        x.leave(0);
        x.join(0);
        x.join(2);
        x.weigh(1, 2);
        x.weigh(2, 1);
        x.weigh(0, 1);
        x.leave(1);
        x.leave(2);
        for (int i = 0; i < 25; i++) x.yields(0);
        due(22, "exact(0, 0)", x.exact(0, 0), 9223371999558077998L);
        x.weigh(1, 8);
        x.slice(1, 1);
        x.terms(1, 0);
        x.join(1);
        due(22, "exact(1, 1)", x.exact(1, 1), 9223372000227356608L);
        due(24, "eligible()", x.eligible(), 3);
        due(25, "earliest(0)", x.earliest(0), 1);
        due(25, "earliest(1)", x.earliest(1), 0);
        due(31, "ahead(1)", x.ahead(1), 1);
        due(35, "would(2, 1, 2)", x.would(2, 1, 2), 1);
        x.slice(1, 20);
        x.weigh(1, 2);
        x.leave(1);
        x.join(1);
        due(25, "both are above: earliest(0)", x.earliest(0), 1);
        x.weigh(1, 1);
        due(25, "they are like: earliest(0)", x.earliest(0), 0);
    }
}
