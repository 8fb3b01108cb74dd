import java.util.Arrays;

/** Promises 20 and 43 to 49: WEEKS, what is AHEAD, TRIALS, and THE LOG. */
final class WeekBounds extends Bounds {
    static void all() {
        weeksTaken();
        lastWeek();
        gladnessMost();
        wetQuarters();
        rainOfAll();
        draws();
        meetingOrder();
        aheadOfThatMeeting();
        lonely();
        patienceEnds();
        allIsStruck();
        logRows();
        logFull();
        logOfNone();
        led();
        settle();
        gladder();
        aheadTaken();
        aheadStays();
        trial();
        span();
    }

    /** The seed behind so many draws, by numbers that do not go round. */
    private static int after(int seed, int draws) {
        long n = seed;
        for (int i = 0; i < draws; i++) {
            n = 1103515245L * n + 12345L & 0xffffffffL;
            n = n >= 1L << 31 ? n - (1L << 32) : n;
        }
        return (int) n;
    }

    private static int draw(int seed, int which) {
        long bits = after(seed, which) & 0xffffffffL;
        return (int) (bits / 65536 % 32768);
    }

    /** One HOST with one GUEST that is BOOKED in all QUARTERS. */
    private static VisitingHours full(int rain) {
        VisitingHours x = some(1, 1);
        Checks.ground(x, "rain " + rain);
        for (int q = 0; q < 8; q++) x.book(0, 0, q);
        return x;
    }

    private static void weeksTaken() {
        holds(20, "So many WEEKS more (1 to 60): how many MET in these. IllegalArgumentException: they are none.");
        VisitingHours x = full(0);
        T.is("1", () -> x.weeks(1), 8);
        T.is("week", () -> x.count(4), 1);
        T.is("60", () -> x.weeks(60), 480);
        T.is("week", () -> x.count(4), 61);
        allThrow("weeks", x::weeks, ARGUMENT, 0, -1, 61, MIN, MAX);
        T.is("week", () -> x.count(4), 61);
        T.is("without hosts", () -> new VisitingHours().weeks(60), 0);
    }

    private static void lastWeek() {
        holds(20, "WEEK is 1 more (9999 at most).");
        VisitingHours x = Checks.with("week 999;host patience 0 from 0 to 7");
        for (int i = 0; i < 149; i++) x.weeks(60);
        x.weeks(59);
        T.is("one less", () -> x.count(4), 9998);
        x.weeks(1);
        T.is("the last", () -> x.count(4), 9999);
        T.is("its rows are of the one before", () -> x.log(0, 0), 9998);
        x.weeks(1);
        T.is("no more", () -> x.count(4), 9999);
        x.weeks(60);
        T.is("no more", () -> x.count(4), 9999);
        T.is("rows", () -> x.log(59, 0), 9999);
        Checks.law(x, "glad 9 if week>" + repeat("999", 10, "+") + "+8 and week<" + repeat("999", 10, "+") + "+10");
        Checks.ground(x, GUEST);
        T.is("the law's week", () -> x.joy(0, 0, 0), 14);
        holds(54, "WEEK: 0 to 9999 (0 at first).");
        T.is("at first", () -> new VisitingHours().count(4), 0);
    }

    private static void gladnessMost() {
        holds(20, "they MEET: GLADNESS is JOY more (999 at most)");
        VisitingHours x = some(1, 1);
        Checks.law(x, lines("glad 99", 10));
        x.book(0, 0, 0);
        x.value(0, 0, true, 8);
        x.weeks(1);
        T.is("998", () -> x.host(0, 2), 998);
        x.undo();
        x.value(0, 0, true, 9);
        x.weeks(1);
        T.is("999", () -> x.host(0, 2), 999);
        T.is("they meet all the same", () -> x.weeks(1), 1);
        T.is("999", () -> x.host(0, 2), 999);
        T.is("the joy of the row", () -> x.log(0, 5), 999);
        Checks.law(x, lines("glad 99", 12));
        x.weeks(1);
        T.is("999", () -> x.host(0, 2), 999);
        T.is("the joy of the row", () -> x.log(0, 5), 1197);
        VisitingHours y = some(1, 1);
        Checks.law(y, lines("glad 99", 11));
        y.book(0, 0, 0);
        y.weeks(1);
        T.is("above 999 at once", () -> y.host(0, 2), 999);
    }

    private static void wetQuarters() {
        holds(20, "(a) it is WET, if DRAW modulo 100 is below RAIN;");
        int[] seeds = {1, 0, -1, MAX, MIN, 77, -99999};
        for (int seed : seeds) {
            for (int q = 0; q < 8; q++) {
                int least = draw(seed, q + 1) % 100;
                for (int rain : new int[] {least, least + 1}) {
                    VisitingHours x = some(1, 1);
                    Checks.ground(x, "rain " + rain);
                    x.book(0, 0, q);
                    x.seed(seed);
                    T.due("quarter " + q + " of seed " + seed + " by rain " + rain, x.weeks(1), rain == least ? 1 : 0);
                }
            }
        }
        int seed = 0;
        while (draw(seed, 1) % 100 != 99) seed++;
        int wettest = seed;
        VisitingHours x = full(99);
        x.seed(wettest);
        x.weeks(1);
        T.is("99 is dry by rain 99", () -> x.log(x.count(10) - 1, 3), 0);
        seed = 0;
        while (draw(seed, 1) % 100 != 0) seed++;
        VisitingHours y = full(0);
        y.seed(seed);
        T.is("0 is dry by rain 0", () -> y.weeks(1), 8);
        VisitingHours z = full(1);
        z.seed(seed);
        z.weeks(1);
        T.is("0 is wet by rain 1", () -> z.log(z.count(10) - 1, 3) > 0, true);
    }

    private static void rainOfAll() {
        holds(20, "RAIN 0 to 100 (0 at first)");
        VisitingHours wet = full(100);
        T.is("100: nobody meets", () -> wet.weeks(9), 0);
        T.is("lonely", () -> wet.host(0, 3), 9);
        VisitingHours dry = full(0);
        T.is("0: all meet", () -> dry.weeks(60), 480);
        VisitingHours first = some(1, 1);
        first.book(0, 0, 7);
        T.is("at first: all meet", () -> first.weeks(60), 60);
    }

    private static void draws() {
        holds(20, "DRAW: SEED is 1103515245 times SEED and 12345, as an int that goes round; bits 16 to 30");
        for (int seed : new int[] {1, 0, -1, 2, MAX, MIN, 1 << 30, 65536}) {
            VisitingHours x = new VisitingHours();
            x.seed(seed);
            x.weeks(1);
            T.due("eight draws from " + seed + ", without hosts and rain", x.seed(0), after(seed, 8));
            x.seed(seed);
            x.weeks(60);
            T.due("480 draws from " + seed, x.seed(0), after(seed, 480));
        }
        VisitingHours y = full(100);
        y.weeks(1);
        T.is("eight draws by rain 100", () -> y.seed(0), after(1, 8));
        holds(20, "A WEEK more: each QUARTER, from 0 on:");
        VisitingHours z = full(50);
        z.seed(9);
        z.weeks(1);
        int row = 0;
        for (int q = 7; q >= 0; q--) {
            if (draw(9, q + 1) % 100 >= 50) T.due("the quarters from the latest on", z.log(row++, 3), q);
        }
        T.due("no others", z.count(10), row);
    }

    private static void meetingOrder() {
        holds(20, "(b) if it is not: each HOST, by numbers, with a GUEST BOOKED in it that CAN and is LET IN");
        VisitingHours x = some(8, 8);
        for (int h = 7; h >= 0; h--) x.book(h, 7 - h, 3);
        x.book(7, 0, 2);
        x.book(0, 0, 4);
        x.weeks(1);
        T.is("ten meet", () -> x.count(10), 10);
        T.is("the last quarter last", () -> x.log(0, 3), 4);
        for (int h = 0; h < 8; h++) T.due("by numbers", x.log(8 - h, 1), h);
        T.is("the first quarter first", () -> x.log(9, 3), 2);
        x.value(3, 4, true, 0);
        T.is("one cannot", () -> x.weeks(1), 9);
        x.value(3, 4, true, 1);
        x.gate(0, 1);
        x.mark(4, 1);
        T.is("one is not let in", () -> x.weeks(1), 9);
        x.change(7, 3, 2);
        T.is("all but that one", () -> x.weeks(1), 9);
    }

    private static void aheadOfThatMeeting() {
        holds(20, "by all as it is ahead of that meeting. Behind all: LONELY of each HOST is 0, if it MET somebody in that WEEK, else 1 more (99 at most)");
        VisitingHours x = some(2, 1);
        Checks.law(x, "glad 10 if lonely>1;glad 20 if week>1");
        x.weeks(2);
        for (int q = 0; q < 8; q++) x.book(0, 0, q);
        x.weeks(1);
        T.is("lonely to the end of the week", () -> x.host(0, 2), 8 * 35);
        T.is("lonely no more", () -> x.host(0, 3), 0);
        T.is("the other one still", () -> x.host(1, 3), 3);
        T.is("the first of that week", () -> x.log(7, 5), 35);
        T.is("the last of that week", () -> x.log(0, 5), 35);
        x.weeks(1);
        T.is("then without", () -> x.log(0, 5), 25);
    }

    private static void lonely() {
        holds(20, "LONELY: weeks since it saw somebody, 0 to 99 (0 at first)");
        VisitingHours x = some(2, 1);
        x.book(0, 0, 7);
        for (int week = 1; week <= 9; week++) {
            x.weeks(1);
            T.due("one that met", x.host(0, 3), 0);
            T.due("one that did not", x.host(1, 3), week);
        }
        x.strike(0, 7);
        x.weeks(1);
        T.is("one that meets no more", () -> x.host(0, 3), 1);
        T.is("one above its patience", () -> x.host(1, 3), 0);
    }

    private static void patienceEnds() {
        holds(20, "one whose LONELY is then above its PATIENCE SETTLES");
        for (int patience = 0; patience <= 9; patience++) {
            VisitingHours x = Checks.with("host patience " + patience + " from 0 to 7;" + GUEST + ";needs a");
            x.book(0, 0, 5);
            if (patience > 0) x.weeks(patience);
            T.due("as many weeks as its patience " + patience, x.host(0, 3), patience);
            T.due("what is booked", x.booked(0, 5), 0);
            T.due("rows", x.count(10), 0);
            x.weeks(1);
            T.due("one more", x.host(0, 3), 0);
            T.due("what was booked", x.booked(0, 5), NONE);
            T.due("its row", x.log(0, 4), 1);
            T.due("its week", x.log(0, 0), patience);
        }
    }

    private static void allIsStruck() {
        holds(20, "all that is BOOKED with it is struck, and LONELY is 0");
        VisitingHours x = Checks.with("host patience 0 from 0 to 3;" + HOST + ";" + GUEST + ";" + GUEST + ";needs a");
        for (int q = 0; q < 8; q++) x.book(1, q % 2, q);
        for (int q = 0; q < 4; q++) x.book(0, 1 - q % 2, q);
        for (int q = 4; q < 8; q++) x.change(0, 1, q);
        T.is("all its quarters and others", () -> x.count(8), 12);
        x.weeks(1);
        T.is("those of the other one stay", () -> x.count(8), 4);
        T.is("none with it", () -> x.host(0, 5), 0);
        T.is("all in its hours are free", () -> x.host(0, 4), 15);
        T.is("the other one's", () -> x.host(1, 4), 240);
        T.is("nobody booked", () -> x.weeks(1), 0);
        T.is("it settles again", () -> x.log(0, 0), 1);
    }

    private static void logRows() {
        holds(49, "THE LOG: the latest 60 MEETINGS (0), and HOSTS that SETTLED (1): WEEK, the HOST, the GUEST (none of 1), the QUARTER (none of 1), 0 or 1, JOY (0 of 1).");
        VisitingHours x = Checks.with("host patience 0 from 0 to 7;" + HOST + ";" + GUEST + ";week 7");
        x.book(1, 0, 7);
        x.weeks(1);
        int[][] due = {{7, 0, NONE, NONE, 1, 0}, {7, 1, 0, 7, 0, 5}, {-2, -2, -2, -2, -2, -2}};
        for (int ago = 0; ago < 3; ago++) {
            for (int what = 0; what < 6; what++) T.due(ago + " ago, what " + what, x.log(ago, what), due[ago][what]);
        }
    }

    private static void logFull() {
        holds(49, "THE LOG so many ago (0 the latest)");
        VisitingHours x = Checks.with("host patience 0 from 0 to 7");
        x.weeks(59);
        T.is("59 rows", () -> x.count(10), 59);
        T.is("the first", () -> x.log(58, 0), 0);
        T.is("no 60th", () -> x.log(59, 0), -2);
        x.weeks(1);
        T.is("60 rows", () -> x.count(10), 60);
        T.is("the first", () -> x.log(59, 0), 0);
        x.weeks(1);
        T.is("60 rows", () -> x.count(10), 60);
        T.is("the first is gone", () -> x.log(59, 0), 1);
        T.is("the latest", () -> x.log(0, 0), 60);
        T.is("no 61st", () -> x.log(60, 0), -2);
        x.weeks(60);
        for (int ago = 0; ago < 60; ago++) T.due(ago + " ago", x.log(ago, 0), 120 - ago);
        VisitingHours y = full(0);
        y.weeks(7);
        T.is("56 meetings", () -> y.count(10), 56);
        y.weeks(1);
        T.is("60 rows", () -> y.count(10), 60);
        T.is("the eldest is the fifth", () -> 10 * y.log(59, 0) + y.log(59, 3), 4);
    }

    private static void logOfNone() {
        holds(49, "2 the GUEST (NONE), 3 the QUARTER (NONE), 4 0 or 1, 5 JOY; - 2 without. NoSuchElementException: another what.");
        VisitingHours x = new VisitingHours();
        for (int what = 0; what < 6; what++) T.due("an empty log, what " + what, x.log(0, what), -2);
        allThrow("what", n -> x.log(0, n), ELEMENT, -1, 6, MIN, MAX);
        Checks.ground(x, "host patience 0 from 0 to 7");
        x.weeks(2);
        for (int ago : new int[] {-1, 2, 59, 60, MIN, MAX}) T.is("ago " + ago, () -> x.log(ago, 0), -2);
        allThrow("what", n -> x.log(0, n), ELEMENT, -1, 6, MIN, MAX);
        allThrow("what of no row", n -> x.log(-1, n), ELEMENT, -1, 6);
    }

    private static void led() {
        holds(48, "LED: how many rows of THE LOG are of a HOST; the WEEK of the latest (none).");
        VisitingHours x = Checks.with(HOST + ";host patience 1 from 0 to 7;" + HOST + ";" + GUEST + ";week 5");
        holds(48, "LED: how many rows (week false), or the WEEK; NONE.");
        T.is("none", () -> x.led(2, false), 0);
        T.is("of none", () -> x.led(2, true), NONE);
        T.is("of the first", () -> x.led(0, false), 0);
        T.is("of the first", () -> x.led(0, true), NONE);
        x.book(0, 0, 0);
        x.weeks(2);
        T.is("of meetings", () -> x.led(0, false), 2);
        T.is("of settling", () -> x.led(1, false), 1);
        T.is("the latest", () -> x.led(1, true), 6);
        T.is("none yet", () -> x.led(2, true), NONE);
        x.strike(0, 0);
        x.weeks(60);
        T.is("rows of all", () -> x.led(0, false) + x.led(1, false) + x.led(2, false), 45);
        x.weeks(60);
        T.is("60", () -> x.led(0, false) + x.led(1, false) + x.led(2, false), 60);
        T.is("the latest of the log", () -> x.led(1, true), x.log(0, 0));
        allThrow("host", n -> x.led(n, true), INDEX, -1, 3, MIN, MAX);
        VisitingHours y = full(0);
        y.weeks(60);
        T.is("60 of one", () -> y.led(0, false), 60);
        T.is("the latest", () -> y.led(0, true), 59);
        Checks.ground(y, "host patience 0 from 0 to 7");
        y.strike(0, 0);
        for (int q = 1; q < 8; q++) y.strike(0, q);
        y.weeks(60);
        T.is("a week of its own row", () -> y.led(0, true), 119);
    }

    private static void settle() {
        holds(43, "SETTLE of a HOST: the first N (1 to 60) AHEAD in which it SETTLES; none.");
        VisitingHours x = Checks.with("host patience 0 from 0 to 7;host patience 9 from 0 to 7;host patience 0 from 0 to 7;" + GUEST, "admit if week<60");
        T.is("the least", () -> x.settle(0), 1);
        T.is("patience 9", () -> x.settle(1), 10);
        x.book(2, 0, 0);
        x.value(2, 0, true, 1);
        T.is("from the 61st week on", () -> x.settle(2), NONE);
        x.weeks(1);
        T.is("in the 60th", () -> x.settle(2), 60);
        holds(43, "SETTLE; NONE.");
        T.is("one that sees somebody each week", () -> full(0).settle(0), NONE);
        Checks.ground(x, "rain 100");
        T.is("rain is not looked at", () -> x.settle(2), 60);
        T.is("nothing stays", () -> x.count(4), 1);
        x.weeks(1);
        T.is("it settled in the rain", () -> x.settle(2), 1);
        allThrow("host", x::settle, INDEX, -1, 3);
    }

    private static void gladder() {
        holds(44, "GLADDER by N WEEKS AHEAD: by how much GLADNESS of all together is more.");
        VisitingHours x = some(2, 2);
        T.is("of none", () -> x.gladder(60), 0);
        x.book(0, 0, 0);
        x.book(1, 1, 7);
        T.is("0 weeks", () -> x.gladder(0), 0);
        T.is("1", () -> x.gladder(1), 10);
        T.is("60", () -> x.gladder(60), 600);
        x.weeks(2);
        T.is("more than now", () -> x.gladder(60), 600);
        Checks.law(x, "glad 94");
        T.is("up to 999 each", () -> x.gladder(60), 2 * 989);
        T.is("without hosts", () -> new VisitingHours().gladder(60), 0);
        holds(44, "GLADDER. IllegalArgumentException: N is none.");
        allThrow("weeks", x::gladder, ARGUMENT, -1, 61, MIN, MAX);
    }

    private static void aheadTaken() {
        holds(45, "AHEAD by N WEEKS (0 to 60): as so many WEEKS without rain (no DRAWS).");
        VisitingHours x = some(2, 1);
        Checks.ground(x, "rain 100");
        x.book(0, 0, 0);
        x.weeks(3);
        T.is("0 weeks: gladness", () -> x.ahead(0, 0, 0), 0);
        T.is("0 weeks: lonely", () -> x.ahead(0, 0, 1), 3);
        T.is("1 week: gladness", () -> x.ahead(0, 1, 0), 5);
        T.is("1 week: lonely", () -> x.ahead(0, 1, 1), 0);
        T.is("60 weeks: gladness", () -> x.ahead(0, 60, 0), 300);
        T.is("6 weeks: lonely", () -> x.ahead(1, 6, 1), 9);
        T.is("7 weeks: settled", () -> x.ahead(1, 7, 1), 0);
        Checks.law(x, "glad 95");
        T.is("999 at most", () -> x.ahead(0, 60, 0), 999);
        holds(45, "AHEAD of a HOST what 0 GLADNESS, 1 LONELY. IllegalArgumentException: N is none; NoSuchElementException: another what.");
        allThrow("weeks", n -> x.ahead(0, n, 0), ARGUMENT, -1, 61, MIN, MAX);
        allThrow("what", n -> x.ahead(0, 60, n), ELEMENT, -1, 2, MIN, MAX);
        allThrow("host", n -> x.ahead(n, 60, 1), INDEX, -1, 2, MIN, MAX);
    }

    private static void aheadStays() {
        holds(45, "as so many WEEKS without rain (no DRAWS)");
        VisitingHours x = full(50);
        x.weeks(1);
        int rows = x.count(10);
        int seed = x.seed(0);
        x.seed(seed);
        x.ahead(0, 60, 0);
        x.gladder(60);
        x.settle(0);
        T.is("no draws", () -> x.seed(seed), seed);
        T.is("no rows", () -> x.count(10), rows);
        T.is("no week", () -> x.count(4), 1);
        T.is("no act", () -> x.count(11), 9);
    }

    private static void trial() {
        holds(46, "TRIAL of N WEEKS (0 to 60) from now (draws, too; nothing stays): GLADNESS of all together then; HOSTS that SETTLED in these, as bits.");
        VisitingHours x = full(50);
        T.is("0 weeks", () -> x.trial(0, false), 0);
        T.is("0 weeks", () -> x.trial(0, true), 0);
        for (int n : new int[] {1, 7, 60}) {
            int tried = x.trial(n, false);
            x.weeks(n);
            T.is(n + " weeks, as they go", () -> x.count(9), tried);
            T.is("now", () -> x.trial(0, false), tried);
            x.undo();
        }
        T.is("nothing stays", () -> x.count(4) + x.count(9) + x.count(10), 0);
        T.is("nor a draw", () -> x.seed(1), 1);
        holds(46, "TRIAL: GLADNESS (settled false), or HOSTS, as bits. IllegalArgumentException: N is none.");
        allThrow("weeks", n -> x.trial(n, true), ARGUMENT, -1, 61, MIN, MAX);
        allThrow("weeks", n -> x.trial(n, false), ARGUMENT, -1, 61, MIN, MAX);
        VisitingHours y = Checks.with("host patience 0 from 0 to 7;" + lines(HOST, 6) + ";host patience 3 from 0 to 7");
        T.is("the first in one week", () -> y.trial(1, true), 1);
        T.is("the first in three", () -> y.trial(3, true), 1);
        T.is("the last in four", () -> y.trial(4, true), 129);
        T.is("all in ten", () -> y.trial(10, true), 255);
        T.is("all in 60", () -> y.trial(60, true), 255);
        T.is("not those that settled before", () -> y.weeks(4) + y.trial(1, true), 1);
        T.is("without hosts", () -> new VisitingHours().trial(60, false), 0);
    }

    /** By some rain seed 1, by some seed 6 is alone the least or the greatest, and seeds 0 and 7 would be beyond these. */
    private static void spanOfSix() {
        boolean[] alone = new boolean[8];
        boolean[] beyond = new boolean[8];
        for (int rain = 1; rain < 100; rain++) {
            int[] glad = new int[8];
            for (int seed = 0; seed < 8; seed++) for (int q = 1; q <= 8; q++) if (draw(seed, q) % 100 >= rain) glad[seed] += 5;
            int[] six = Arrays.copyOfRange(glad, 1, 7);
            Arrays.sort(six);
            for (int seed = 0; seed < 8; seed++) {
                alone[seed] |= glad[seed] < six[1] || glad[seed] > six[4];
                beyond[seed] |= glad[seed] < six[0] || glad[seed] > six[5];
            }
            VisitingHours x = full(rain);
            T.due("the least by rain " + rain, x.span(1, false), six[0]);
            T.due("the greatest by rain " + rain, x.span(1, true), six[5]);
        }
        T.due("the first and the last count, those beside them would", alone[1] && alone[6] && beyond[0] && beyond[7], true);
    }

    private static void span() {
        holds(47, "SPAN: the least and the greatest GLADNESS so from SEED 1, 2, .. 6.");
        for (int rain : new int[] {0, 1, 30, 50, 70, 99, 100}) {
            VisitingHours x = full(rain);
            for (int n : new int[] {0, 1, 2}) {
                int least = MAX;
                int most = 0;
                for (int seed = 1; seed <= 6; seed++) {
                    x.seed(seed);
                    least = Math.min(least, x.trial(n, false));
                    most = Math.max(most, x.trial(n, false));
                }
                x.seed(7);
                T.due("the least of " + n + " weeks by rain " + rain, x.span(n, false), least);
                T.due("the greatest of " + n + " weeks by rain " + rain, x.span(n, true), most);
                T.due("the seed stays", x.seed(7), 7);
            }
        }
        spanOfSix();
        VisitingHours x = full(0);
        x.weeks(1);
        T.is("0 weeks: now", () -> x.span(0, false), 40);
        T.is("60 weeks", () -> x.span(60, true), 999);
        T.is("nothing stays", () -> x.count(4), 1);
        T.is("without hosts", () -> new VisitingHours().span(60, false), 0);
        holds(47, "SPAN: the least (most false), or the greatest. IllegalArgumentException: N is none.");
        allThrow("weeks", n -> x.span(n, true), ARGUMENT, -1, 61, MIN, MAX);
    }
}
