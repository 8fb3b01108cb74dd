/** Promises 36 to 42: ODDS, WAIT, TREATY, RESTS, DEAREST, FORLORN and ALIKE. */
final class OddsBounds extends Bounds {
    static void all() {
        oddsAtTheEnds();
        oddsRounded();
        oddsRefused();
        waitsAtTheEnds();
        waitsRounded();
        waitsRefused();
        treatyOfLikeOnes();
        treatyOfFewHours();
        treatyNone();
        treatyRefused();
        rests();
        dearest();
        forlorn();
        alike();
    }

    private static VisitingHours rain(int n) {
        return Checks.with("rain " + n);
    }

    private static void oddsAtTheEnds() {
        holds(36, "ODDS of N QUARTERS (0 to 7) and K dry ones (0 to 8) at least, by RAIN, each alike, in ten thousandths, rounded down.");
        for (int rain : new int[] {0, 1, 50, 100}) {
            VisitingHours x = rain(rain);
            for (int n = 0; n <= 7; n++) {
                int quarters = n;
                T.is("none at least of " + n, () -> x.odds(quarters, 0), 10000);
                T.is("more than " + n, () -> x.odds(quarters, quarters + 1), 0);
                T.is("8 of " + n, () -> x.odds(quarters, 8), 0);
                if (n > 0 && rain % 100 == 0) T.is("1 of " + n + " by " + rain, () -> x.odds(quarters, 1), rain == 0 ? 10000 : 0);
                if (n > 0 && rain % 100 == 0) T.is("all of " + n + " by " + rain, () -> x.odds(quarters, quarters), rain == 0 ? 10000 : 0);
            }
        }
    }

    private static void oddsRounded() {
        holds(36, "`int odds(int n, int k) throws IllegalArgumentException`: ODDS.");
        VisitingHours half = rain(50);
        T.is("7 of 7: 78.125", () -> half.odds(7, 7), 78);
        T.is("1 of 7: 9921.875", () -> half.odds(7, 1), 9921);
        T.is("4 of 7", () -> half.odds(7, 4), 5000);
        T.is("1 of 1", () -> half.odds(1, 1), 5000);
        VisitingHours most = rain(99);
        T.is("7 of 7", () -> most.odds(7, 7), 0);
        T.is("2 of 2", () -> most.odds(2, 2), 1);
        T.is("1 of 7: 679.34", () -> most.odds(7, 1), 679);
        VisitingHours least = rain(1);
        T.is("1 of 7, nearly all", () -> least.odds(7, 1), 9999);
        T.is("7 of 7: 9320.65", () -> least.odds(7, 7), 9320);
        T.is("2 of 2", () -> least.odds(2, 2), 9801);
    }

    private static void oddsRefused() {
        holds(36, "IllegalArgumentException: N or K are none.");
        VisitingHours x = rain(5);
        allThrow("n", n -> x.odds(n, 0), ARGUMENT, -1, 8, MIN, MAX);
        allThrow("k", k -> x.odds(0, k), ARGUMENT, -1, 9, MIN, MAX);
        T.is("both", () -> x.odds(8, 9), ARGUMENT);
    }

    private static void waitsAtTheEnds() {
        holds(37, "WAIT of N WEEKS (0 to 8) and a QUARTER: in ten thousandths, rounded down: that it was dry in some of them.");
        for (int rain : new int[] {0, 1, 50, 99, 100}) {
            VisitingHours x = rain(rain);
            T.is("no weeks", () -> x.waits(0, 0), 0);
            T.is("one week", () -> x.waits(1, 7), 100 * (100 - rain));
            if (rain % 100 == 0) T.is("eight weeks", () -> x.waits(8, 7), rain == 0 ? 10000 : 0);
        }
    }

    private static void waitsRounded() {
        holds(37, "`int waits(int n, int quarter) throws IndexOutOfBoundsException, IllegalArgumentException`: WAIT.");
        VisitingHours least = rain(1);
        T.is("2 weeks, exactly", () -> least.waits(2, 0), 9999);
        T.is("3 weeks, nearly all", () -> least.waits(3, 0), 9999);
        T.is("8 weeks, still nearly all", () -> least.waits(8, 0), 9999);
        VisitingHours half = rain(50);
        T.is("8 weeks: 9960.9", () -> half.waits(8, 3), 9960);
        VisitingHours most = rain(99);
        T.is("2 weeks", () -> most.waits(2, 3), 199);
        T.is("3 weeks: 297.01", () -> most.waits(3, 3), 297);
        T.is("8 weeks: 772.55", () -> most.waits(8, 3), 772);
    }

    private static void waitsRefused() {
        holds(37, "WAIT. IllegalArgumentException: N is none.");
        VisitingHours x = rain(5);
        allThrow("weeks", n -> x.waits(n, 7), ARGUMENT, -1, 9, MIN, MAX);
        allThrow("quarter", q -> x.waits(8, q), INDEX, -1, 8, MIN, MAX);
        T.is("neither", () -> x.waits(9, 8), INDEX);
    }

    private static void treatyOfLikeOnes() {
        holds(38, "TREATY of two HOSTS: Q QUARTERS (0 to 8) of 8 go to the first one, the others to the second one;");
        VisitingHours x = some(8, 0);
        T.is("halves", () -> x.treaty(0, 7), 4);
        T.is("halves", () -> x.treaty(7, 0), 4);
        holds(38, "the Q by which the product of what both have more than that is the greatest, if neither has less (of several the least; none, if there is none).");
        VisitingHours y = Checks.with("host patience 1 from 0 to 7;host patience 0 from 0 to 7;host patience 9 from 0 to 7");
        T.is("3 and 4 are alike", () -> y.treaty(0, 1), 3);
        T.is("4 and 5 are alike", () -> y.treaty(1, 0), 4);
        T.is("28 times 3", () -> y.treaty(2, 1), 3);
        T.is("3 times 28", () -> y.treaty(1, 2), 5);
    }

    private static void treatyOfFewHours() {
        holds(38, "each has its PATIENCE and 1, together, times how many it has, less 4, if it has more than there are in its HOURS; without one each has 2:");
        VisitingHours x = Checks.with("host patience 0 from 0 to 3;host patience 0 from 0 to 7;host patience 0 from 0 to 2;host patience 9 from 0 to 1");
        T.is("4 are not more than 4 hours", () -> x.treaty(0, 1), 4);
        T.is("4 are not more than 4 hours", () -> x.treaty(1, 0), 4);
        T.is("4 are more than 3 hours", () -> x.treaty(2, 1), 3);
        T.is("4 are more than 3 hours", () -> x.treaty(1, 2), 5);
        T.is("18 times 4 and 24 times 3 are alike", () -> x.treaty(3, 1), 2);
        T.is("3 times 24 and 4 times 18 are alike", () -> x.treaty(1, 3), 5);
    }

    private static void treatyNone() {
        holds(38, "TREATY; NONE. IllegalArgumentException: both are one.");
        VisitingHours x = Checks.with("host patience 0 from 0 to 0;host patience 0 from 0 to 0;host patience 0 from 0 to 7;host patience 0 from 5 to 6");
        T.is("one always has less", () -> x.treaty(0, 1), NONE);
        T.is("neither has more nor less, once", () -> x.treaty(0, 2), 6);
        T.is("neither has more nor less, once", () -> x.treaty(2, 0), 2);
        T.is("neither has more nor less, twice", () -> x.treaty(3, 2), 2);
        T.is("one has two, which is not less", () -> x.treaty(0, 3), 6);
        T.is("one has two, which is not less", () -> x.treaty(3, 0), 2);
    }

    private static void treatyRefused() {
        holds(38, "IllegalArgumentException: a number is none, or two are one.");
        VisitingHours x = some(2, 0);
        allThrow("both are", h -> x.treaty(h, h), ARGUMENT, 0, 1);
        allThrow("first", h -> x.treaty(h, 0), INDEX, -1, 2, MIN, MAX);
        allThrow("other", h -> x.treaty(0, h), INDEX, -1, 2, MIN, MAX);
        allThrow("both are no host", h -> x.treaty(h, h), INDEX, -1, 2, MIN, MAX);
    }

    private static void rests() {
        holds(39, "RESTS of the gate and a GUEST (at a HOST): the gate looks (0) or not (1), the GUEST tells the truth (0) or comes as another one (1), unseen.");
        for (int loved = 0; loved <= 9; loved++) {
            for (int needs = 0; needs <= 1; needs++) {
                VisitingHours x = some(1, 1);
                x.gate(needs, 0);
                x.value(0, 0, false, loved);
                T.due("loved " + loved + " at a gate that needs " + needs, x.rests(0, 0), restsBy(loved, needs == 0));
            }
        }
        holds(39, "RESTS, as bits.");
        VisitingHours x = some(2, 3);
        allThrow("host", h -> x.rests(h, 0), INDEX, -1, 2, MIN, MAX);
        allThrow("guest", g -> x.rests(0, g), INDEX, -1, 3, MIN, MAX);
    }

    /** The choices from which neither goes, told by the words of the document one by one. */
    private static int restsBy(int rank, boolean marked) {
        holds(39, "by coming as another one RANK of the HOST and 1, if nobody looks, else - 3. The gate has 1 less by looking, 4 more by looking at one who comes as another one, "
            + "2 less by not looking at such a one, else nothing: choices (2 times the gate's and the GUEST's) from which neither would have more by the other one of its own: as bits.");
        int truth = marked ? rank : 0;
        int[] gate = {-1, -1 + 4, 0, -2};
        int[] guest = {truth, -3, truth, rank + 1};
        int set = 0;
        for (int both = 0; both < 4; both++) {
            if (gate[both] >= gate[both ^ 2] && guest[both] >= guest[both ^ 1]) set |= 1 << both;
        }
        return set;
    }

    private static void dearest() {
        holds(40, "DEAREST: the GUEST LIKED the most (of several the least; none).");
        T.is("none", () -> new VisitingHours().dearest(), NONE);
        T.is("none", () -> some(8, 0).dearest(), NONE);
        T.is("without hosts", () -> some(0, 8).dearest(), 0);
        VisitingHours x = some(8, 8);
        T.is("of like ones", x::dearest, 0);
        x.value(7, 7, true, 6);
        T.is("the last", x::dearest, 7);
        x.value(0, 3, true, 6);
        T.is("of two", x::dearest, 3);
        x.value(0, 7, false, 9);
        T.is("ranks by the guest are not looked at", x::dearest, 3);
        holds(40, "DEAREST; NONE.");
        VisitingHours y = some(1, 2);
        Checks.ground(y, "likes 0 00");
        T.is("liked by nobody", y::dearest, 0);
    }

    private static void forlorn() {
        holds(41, "FORLORN: HOSTS by whom no GUEST (there being any) CAN in any QUARTER (LET IN or not), as bits.");
        T.is("without anybody", () -> new VisitingHours().forlorn(), 0);
        T.is("there being no guest", () -> some(8, 0).forlorn(), 0);
        T.is("none", () -> some(8, 8).forlorn(), 0);
        VisitingHours x = some(8, 1);
        Checks.ground(x, "loves 0 00000000");
        T.is("all", x::forlorn, 255);
        x.value(7, 0, false, 1);
        T.is("all but the last", x::forlorn, 127);
        x.gate(1, 0);
        T.is("let in or not", x::forlorn, 127);
        x.value(7, 0, true, 0);
        T.is("ranks by the host", x::forlorn, 255);
        VisitingHours y = Checks.with("host patience 1 from 0 to 3;host patience 1 from 4 to 7;guest stay 4 from 3 to 3");
        T.is("one common quarter, shorter than the stay", y::forlorn, 2);
        Checks.ground(y, "guest stay 1 from 4 to 4");
        T.is("another guest", y::forlorn, 0);
    }

    private static void alike() {
        holds(42, "ALIKE: pairs of HOSTS of the same RANKS of all GUESTS and the same HOURS: how many.");
        T.is("without hosts", () -> new VisitingHours().alike(), 0);
        T.is("one", () -> some(1, 8).alike(), 0);
        T.is("two", () -> some(2, 8).alike(), 1);
        T.is("eight", () -> some(8, 8).alike(), 28);
        T.is("eight without guests", () -> some(8, 0).alike(), 28);
        VisitingHours x = some(8, 8);
        x.value(7, 7, true, 6);
        T.is("all but the last", x::alike, 21);
        x.value(0, 7, true, 6);
        T.is("six and two", x::alike, 16);
        x.value(1, 0, false, 9);
        T.is("ranks by the guests are not looked at", x::alike, 16);
        VisitingHours z = some(2, 8);
        for (int g = 0; g < 8; g++) {
            z.value(1, g, true, 6);
            T.due("another rank of guest " + g, z.alike(), 0);
            z.value(0, g, true, 6);
            T.due("the same rank of guest " + g, z.alike(), 1);
        }
        VisitingHours y = Checks.with("host patience 0 from 0 to 6;host patience 9 from 0 to 6;host patience 0 from 0 to 7;host patience 0 from 1 to 7;" + GUEST);
        T.is("hours, not patience", y::alike, 1);
    }
}
