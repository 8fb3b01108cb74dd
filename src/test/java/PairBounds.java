/** Promises 24 to 29: PAIRS, ROW and AFTERNOON. */
final class PairBounds extends Bounds {
    private static final String CROSS = "likes 0 95;likes 1 59;loves 0 59;loves 1 95";

    static void all() {
        bestOfNone();
        bestOfLikeRanks();
        bestNever();
        bestForGuests();
        wayOfNone();
        manyWays();
        ratherRow();
        ratherNone();
        ratherRefused();
        rowOfSets();
        rowStays();
        rowLeast();
        afternoonMost();
        afternoonFirstWay();
        afternoonRefused();
    }

    private static void bestOfNone() {
        holds(24, "BEST for the HOSTS: with whom a HOST is; NONE.");
        VisitingHours x = some(8, 0);
        T.is("without guests", () -> x.hostBest(7), NONE);
        VisitingHours y = some(8, 8);
        for (int h = 0; h < 8; h++) T.due("of like ranks", y.hostBest(h), h);
        VisitingHours z = some(3, 2);
        T.is("one host too many", () -> z.hostBest(2), NONE);
        VisitingHours w = some(2, 3);
        T.is("one guest too many", () -> w.hostBest(1), 1);
        allThrow("host", y::hostBest, INDEX, -1, 8, MIN, MAX);
        allThrow("host", y::guestBest, INDEX, -1, 8, MIN, MAX);
        allThrow("host of none", new VisitingHours()::hostBest, INDEX, 0, NONE);
    }

    private static void bestOfLikeRanks() {
        holds(24, "a HOST would rather a GUEST of a greater RANK than its own one, or, of like RANKS, of a lesser number, or any with a RANK above 0, if it has none; a GUEST likewise");
        VisitingHours x = some(1, 3);
        T.is("the lesser number", () -> x.hostBest(0), 0);
        x.value(0, 2, true, 6);
        T.is("the greater rank", () -> x.hostBest(0), 2);
        x.value(0, 1, true, 6);
        T.is("the lesser number of these", () -> x.hostBest(0), 1);
        VisitingHours y = some(3, 1);
        T.is("the guest's lesser number", () -> y.hostBest(0), 0);
        y.value(2, 0, false, 6);
        T.is("the guest's greater rank", () -> y.hostBest(2), 0);
        T.is("the others", () -> y.hostBest(0), NONE);
        for (int h = 0; h < 3; h++) y.value(h, 0, true, 1);
        for (int h = 0; h < 3; h++) y.value(h, 0, false, 1);
        T.is("ranks of 1", () -> y.hostBest(0), 0);
    }

    private static void bestNever() {
        holds(24, "so that neither RANK of a pair is 0 and there is no HOST and no GUEST with RANKS above 0 who would both rather be with each other");
        VisitingHours x = some(1, 1);
        x.value(0, 0, true, 0);
        T.is("by the host", () -> x.hostBest(0), NONE);
        T.is("by the host", () -> x.guestBest(0), NONE);
        x.value(0, 0, true, 1);
        T.is("ranks above 0", () -> x.hostBest(0), 0);
        x.value(0, 0, false, 0);
        T.is("by the guest", () -> x.hostBest(0), NONE);
        T.is("by the guest", () -> x.guestBest(0), NONE);
        T.is("one way", x::ways, 1);
        VisitingHours y = Checks.with("host patience 1 from 0 to 0;guest stay 4 from 7 to 7;needs a");
        T.is("hours, stay and the gate are not looked at", () -> y.hostBest(0), 0);
    }

    private static void bestForGuests() {
        holds(25, "BEST for the GUESTS: with whom a HOST is; NONE.");
        T.is("without guests", () -> some(1, 0).guestBest(0), NONE);
        VisitingHours x = some(2, 2);
        Checks.ground(x, CROSS);
        T.is("the hosts' best", () -> 10 * x.hostBest(0) + x.hostBest(1), 1);
        T.is("the guests' best", () -> 10 * x.guestBest(0) + x.guestBest(1), 10);
        VisitingHours y = some(3, 2);
        T.is("one host too many", () -> y.guestBest(2), NONE);
        VisitingHours z = some(8, 8);
        for (int h = 0; h < 8; h++) T.due("of like ranks", z.guestBest(h), h);
        holds(24, "of all such ways the one by which each HOST has the GUEST that it would rather than any it has in another one; with whom a HOST is in it; none;");
        VisitingHours w = some(3, 3);
        Checks.ground(w, "likes 0 987;likes 1 798;likes 2 879;loves 0 798;loves 1 879;loves 2 987");
        int[] hosts = {0, 1, 2};
        int[] guests = {2, 0, 1};
        for (int h = 0; h < 3; h++) {
            T.due("the hosts' first wishes", w.hostBest(h), hosts[h]);
            T.due("the guests' first wishes", w.guestBest(h), guests[h]);
        }
    }

    private static void wayOfNone() {
        holds(26, "WAYS: how many such ways there are.");
        T.is("without anybody", () -> new VisitingHours().ways(), 1);
        T.is("without guests", () -> some(8, 0).ways(), 1);
        T.is("without hosts", () -> some(0, 8).ways(), 1);
        T.is("of like ranks", () -> some(8, 8).ways(), 1);
        VisitingHours x = some(8, 8);
        for (int h = 0; h < 8; h++) Checks.ground(x, "likes " + h + " 00000000");
        T.is("nobody with anybody", x::ways, 1);
    }

    private static void manyWays() {
        holds(26, "`int ways()`: WAYS.");
        VisitingHours x = some(2, 2);
        Checks.ground(x, CROSS);
        T.is("two", x::ways, 2);
        Checks.ground(x, HOST + ";" + GUEST);
        T.is("and a pair beside them", x::ways, 2);
        VisitingHours y = some(8, 8);
        Checks.ground(y, "likes 0 98111111;likes 1 89111111;likes 2 11981111;likes 3 11891111;likes 4 11119811;likes 5 11118911;likes 6 11111198;likes 7 11111189");
        Checks.ground(y, "loves 0 89111111;loves 1 98111111;loves 2 11891111;loves 3 11981111;loves 4 11118911;loves 5 11119811;loves 6 11111189;loves 7 11111198");
        T.is("two by two by two by two", y::ways, 16);
        VisitingHours ring = eight((host, guest) -> 9 - Math.floorMod(guest - host, 8), (host, guest) -> 2 + Math.floorMod(guest - host, 8));
        T.is("a ring of eight", ring::ways, 8);
        VisitingHours most = eight((host, guest) -> 9 - (host ^ guest), (host, guest) -> 2 + (host ^ guest));
        T.is("the most that eight and eight are known to have", most::ways, 268);
        T.is("the hosts' first wishes", () -> 10 * most.hostBest(0) + most.hostBest(7), 7);
        T.is("the guests' first wishes", () -> 10 * most.guestBest(0) + most.guestBest(7), 70);
    }

    interface Rank {
        int of(int host, int guest);
    }

    private static VisitingHours eight(Rank byHost, Rank byGuest) {
        VisitingHours x = some(8, 8);
        for (int host = 0; host < 8; host++) {
            for (int guest = 0; guest < 8; guest++) {
                x.value(host, guest, true, byHost.of(host, guest));
                x.value(host, guest, false, byGuest.of(host, guest));
            }
        }
        return x;
    }

    private static int rather(VisitingHours x, int... row) {
        Checks.tell(x, row);
        return x.rather();
    }

    private static void ratherRow() {
        holds(27, "RATHER: told is a row of GUESTS, one for each HOST (255: none): how many HOSTS and GUESTS who would both rather");
        VisitingHours x = some(2, 2);
        Checks.ground(x, CROSS);
        T.is("the hosts' best", () -> rather(x, 0, 1), 0);
        T.is("the guests' best", () -> rather(x, 1, 0), 0);
        T.is("none for both", () -> rather(x, 255, 255), 4);
        T.is("none for the second", () -> rather(x, 0, 255), 2);
        T.is("none for the first", () -> rather(x, 255, 0), 2);
        T.is("of no hosts", () -> rather(new VisitingHours()), 0);
        VisitingHours y = some(8, 8);
        T.is("the most", () -> rather(y, 255, 255, 255, 255, 255, 255, 255, 255), 64);
        T.is("the best", () -> rather(y, 0, 1, 2, 3, 4, 5, 6, 7), 0);
        T.is("upside down, of like ranks", () -> rather(y, 7, 6, 5, 4, 3, 2, 1, 0), 28);
        T.is("without guests", () -> rather(some(1, 0), 255), 0);
    }

    private static void ratherNone() {
        holds(27, "(a GUEST that is not told has none; NONE, if one is told twice, or some RANK of a told pair is 0).");
        VisitingHours x = some(3, 2);
        T.is("told twice", () -> rather(x, 0, 0, 255), NONE);
        T.is("told twice apart", () -> rather(x, 1, 255, 1), NONE);
        T.is("none told twice", () -> rather(x, 255, 255, 1), 5);
        x.value(2, 1, true, 0);
        T.is("a rank of 0 by the host", () -> rather(x, 255, 255, 1), NONE);
        T.is("of another pair", () -> rather(x, 255, 1, 255), 4);
        x.value(2, 1, true, 1);
        x.value(2, 1, false, 0);
        T.is("a rank of 0 by the guest", () -> rather(x, 255, 255, 1), NONE);
        x.value(2, 1, false, 1);
        T.is("ranks of 1", () -> rather(x, 255, 255, 1), 5);
    }

    private static void ratherRefused() {
        holds(27, "RATHER (a byte for each HOST: a GUEST, or 255); NONE. IllegalArgumentException: the TAPE is not that.");
        VisitingHours x = some(2, 2);
        int[][] wrong = {{}, {0}, {0, 1, 255}, {0, 2}, {2, 0}, {254, 255}, {128, 0}, {0, 0, 0}};
        for (int[] row : wrong) {
            T.is("a row of " + row.length, () -> rather(x, row), ARGUMENT);
            T.is("its tape", () -> x.end(1), false);
        }
        T.is("the last guest", () -> rather(x, 1, 255), 2);
        T.is("its tape", () -> x.end(1), false);
        T.is("one too many for none", () -> rather(new VisitingHours(), 255), ARGUMENT);
        T.is("a guest of none", () -> rather(some(1, 0), 0), ARGUMENT);
    }

    private static void rowOfSets() {
        holds(28, "Sets are bits; of none they count for nothing.");
        VisitingHours x = some(1, 3);
        holds(28, "ROW: how many (set false), or which, as bits.");
        T.is("none", () -> x.row(0, 0, false), 0);
        T.is("none", () -> x.row(0, 0, true), 0);
        T.is("all", () -> x.row(0, 7, true), 7);
        T.is("all, and more", () -> x.row(0, -1, true), 7);
        T.is("none of those that there are", () -> x.row(0, -8, false), 0);
        T.is("the last, and more", () -> x.row(0, MIN + 4, true), 4);
        T.is("without guests", () -> some(1, 0).row(0, 255, false), 0);
        VisitingHours y = some(1, 8);
        T.is("eight", () -> y.row(0, 255, false), 8);
        T.is("all but the last", () -> y.row(0, 127, true), 127);
        T.is("the last", () -> y.row(0, 128, true), 128);
        T.is("the fewer ones again", () -> y.row(0, 1, true), 1);
        allThrow("host", h -> y.row(h, 255, true), INDEX, -1, 1, MIN, MAX);
    }

    private static void rowStays() {
        holds(28, "(each for its STAY, QUARTERS without a break in HOURS of both, no two at once; no RANK 0; what is BOOKED not looked at)");
        VisitingHours x = Checks.with("host patience 1 from 0 to 3;guest stay 4 from 0 to 7;guest stay 4 from 1 to 7;guest stay 1 from 3 to 7");
        holds(28, "ROW of a HOST by told GUESTS: the most of them that it can see one behind another in its HOURS");
        T.is("a stay that just fits", () -> x.row(0, 1, false), 1);
        T.is("a stay one too long", () -> x.row(0, 2, false), 0);
        T.is("the last quarter", () -> x.row(0, 4, false), 1);
        T.is("no two at once", () -> x.row(0, 5, false), 1);
        x.book(0, 2, 3);
        T.is("booked or not", () -> x.row(0, 1, false), 1);
        x.gate(1, 0);
        T.is("let in or not", () -> x.row(0, 1, false), 1);
        x.value(0, 0, true, 0);
        T.is("a rank of 0 by the host", () -> x.row(0, 1, false), 0);
        x.value(0, 0, true, 1);
        x.value(0, 0, false, 0);
        T.is("a rank of 0 by the guest", () -> x.row(0, 1, false), 0);
        VisitingHours y = Checks.with(HOST + ";guest stay 4 from 0 to 7;guest stay 4 from 0 to 7;guest stay 1 from 0 to 7");
        T.is("two that fill all", () -> y.row(0, 3, false), 2);
        T.is("a third", () -> y.row(0, 7, false), 2);
        VisitingHours z = Checks.with(HOST + ";guest stay 1 from 7 to 7;guest stay 3 from 0 to 7;guest stay 4 from 0 to 7");
        T.is("not in the row of their numbers", () -> z.row(0, 7, false), 3);
    }

    private static void rowLeast() {
        holds(28, "how many; which (of several sets the least as bits).");
        VisitingHours x = Checks.with(HOST + ";guest stay 4 from 0 to 7;guest stay 4 from 0 to 7;guest stay 4 from 0 to 7;guest stay 4 from 0 to 7");
        T.is("two of four", () -> x.row(0, 15, true), 3);
        T.is("two of three", () -> x.row(0, 14, true), 6);
        T.is("two of the others", () -> x.row(0, 13, true), 5);
        VisitingHours y = Checks.with("host patience 1 from 0 to 1;guest stay 2 from 0 to 1;guest stay 1 from 0 to 1;guest stay 1 from 0 to 1");
        T.is("two are more, though not the least", () -> y.row(0, 7, true), 6);
    }

    private static void afternoonMost() {
        holds(29, "AFTERNOON: of each QUARTER the most HOSTS that can have a GUEST, each another one (who CAN; what is BOOKED not looked at): how many in a QUARTER;");
        T.is("without anybody", () -> new VisitingHours().afternoon(7, NONE), 0);
        T.is("without guests", () -> some(8, 0).afternoon(0, NONE), 0);
        T.is("without hosts", () -> some(0, 8).afternoon(0, NONE), 0);
        VisitingHours x = some(8, 8);
        T.is("the most", () -> x.afternoon(0, NONE), 8);
        for (int h = 0; h < 8; h++) T.due("host " + h, x.afternoon(7, h), h);
        x.book(0, 7, 0);
        x.gate(1, 0);
        T.is("booked and let in or not", () -> x.afternoon(0, 0), 0);
        VisitingHours y = Checks.with("host patience 1 from 2 to 4;guest stay 4 from 4 to 6");
        int[] due = {0, 0, 0, 0, 1, 0, 0, 0};
        for (int q = 0; q < 8; q++) T.due("quarter " + q, y.afternoon(q, NONE), due[q]);
        y.value(0, 0, false, 0);
        T.is("a rank of 0", () -> y.afternoon(4, NONE), 0);
    }

    private static void afternoonFirstWay() {
        holds(29, "with whom a HOST is in the first such way (HOST by HOST, none being the least, then the GUESTS); none.");
        VisitingHours x = some(3, 2);
        int[] due = {NONE, 0, 1};
        for (int h = 0; h < 3; h++) T.due("host " + h, x.afternoon(0, h), due[h]);
        x.value(1, 0, true, 0);
        x.value(1, 1, true, 0);
        due = new int[] {0, NONE, 1};
        for (int h = 0; h < 3; h++) T.due("host " + h, x.afternoon(0, h), due[h]);
        x.value(2, 1, true, 0);
        due = new int[] {1, NONE, 0};
        for (int h = 0; h < 3; h++) T.due("host " + h, x.afternoon(0, h), due[h]);
        VisitingHours y = some(1, 8);
        T.is("ranks are not looked at", () -> {
            y.value(0, 7, true, 9);
            return y.afternoon(0, 0);
        }, 0);
    }

    private static void afternoonRefused() {
        holds(29, "AFTERNOON: how many (host NONE), or with whom one is; NONE.");
        VisitingHours x = some(2, 2);
        allThrow("quarter", q -> x.afternoon(q, NONE), INDEX, -1, 8, MIN, MAX);
        allThrow("host", h -> x.afternoon(0, h), INDEX, -2, 2, MIN, MAX);
        T.is("the last of both", () -> x.afternoon(7, 1), 1);
        T.is("without guests", () -> some(1, 0).afternoon(0, 0), NONE);
        allThrow("host of none", h -> new VisitingHours().afternoon(0, h), INDEX, 0, -2);
    }
}
