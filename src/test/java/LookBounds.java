/** Promises 7 to 11 and 54: what a HOST, a GUEST, a RANK and THE LIST are. */
final class LookBounds extends Bounds {
    static void all() {
        whatOfHost();
        whatOfGuest();
        atFirst();
        share();
        free();
        sees();
        busy();
        liked();
        ranks();
        bookedBySome();
        hoursOfBoth();
        neverRanks();
        counts();
    }

    private static void whatOfHost() {
        holds(7, "6 SHARE. NoSuchElementException: another what.");
        VisitingHours x = some(1, 1);
        int[] due = {9, 255, 0, 0, 255, 0, 0};
        for (int what = 0; what < 7; what++) T.due("what " + what, x.host(0, what), due[what]);
        allThrow("what", n -> x.host(0, n), ELEMENT, -1, 7, MIN, MAX);
        allThrow("host", n -> x.host(n, 7), INDEX, -1, 1, MIN, MAX);
    }

    private static void whatOfGuest() {
        holds(8, "5 1 if its MARKS pass the GATE. NoSuchElementException: another what.");
        VisitingHours x = some(1, 1);
        int[] due = {1, 255, 0, 0, 5, 1};
        for (int what = 0; what < 6; what++) T.due("what " + what, x.guest(0, what), due[what]);
        x.gate(1, 0);
        T.is("they do not", () -> x.guest(0, 5), 0);
        allThrow("what", n -> x.guest(0, n), ELEMENT, -1, 6, MIN, MAX);
        allThrow("guest", n -> x.guest(n, 6), INDEX, -1, 1, MIN, MAX);
    }

    private static void atFirst() {
        holds(7, "GLADNESS 0 to 999 (0 at first), LONELY: weeks since it saw somebody, 0 to 99 (0 at first)");
        VisitingHours x = some(1, 1);
        x.book(0, 0, 0);
        x.weeks(2);
        Checks.ground(x, HOST);
        T.is("gladness of one that comes later", () -> x.host(1, 2), 0);
        T.is("lonely of one that comes later", () -> x.host(1, 3), 0);
        T.is("the one that was there", () -> x.host(0, 2), 10);
        x.weeks(9);
        T.is("lonely, as far as patience goes", () -> x.host(1, 3), 9);
        T.is("one that saw somebody", () -> x.host(0, 3), 0);
    }

    private static void share() {
        holds(7, "SHARE of a HOST: GLADNESS in hundredths of that of all, rounded down (0 without).");
        VisitingHours x = some(3, 3);
        T.is("without", () -> x.host(0, 6), 0);
        x.book(0, 0, 0);
        x.weeks(1);
        T.is("all", () -> x.host(0, 6), 100);
        T.is("none", () -> x.host(2, 6), 0);
        x.book(1, 1, 0);
        x.book(2, 2, 0);
        x.strike(0, 0);
        x.weeks(1);
        T.is("5 of 15, rounded down", () -> x.host(2, 6), 33);
        x.strike(2, 0);
        x.weeks(1);
        T.is("10 of 20", () -> x.host(1, 6), 50);
        x.weeks(1);
        T.is("15 of 25", () -> x.host(1, 6), 60);
        T.is("the sum need not be 100", () -> x.host(0, 6) + x.host(2, 6), 40);
        VisitingHours y = some(8, 8);
        Checks.law(y, lines("glad 99", 12));
        for (int h = 0; h < 8; h++) y.book(h, h, h);
        y.weeks(1);
        T.is("999 of 7992", () -> y.host(7, 6), 12);
    }

    private static void free() {
        holds(7, "FREE of a HOST: QUARTERS of its HOURS without anybody BOOKED, as bits.");
        VisitingHours x = Checks.with("host patience 9 from 2 to 4;host patience 9 from 0 to 7;" + GUEST + ";" + GUEST);
        T.is("nothing booked", () -> x.host(0, 4), 28);
        x.book(0, 0, 2);
        x.book(0, 0, 4);
        T.is("one is left", () -> x.host(0, 4), 8);
        x.book(0, 1, 3);
        T.is("none is left", () -> x.host(0, 4), 0);
        x.book(1, 1, 7);
        x.change(0, 1, 7);
        T.is("one out of its hours", () -> x.booked(0, 7), 1);
        T.is("takes none of its hours", () -> x.host(0, 4), 0);
        T.is("the one that changed", () -> x.host(1, 4), 255);
    }

    private static void sees() {
        holds(7, "SEES of a HOST: GUESTS that are BOOKED with it, as bits.");
        VisitingHours x = some(1, 8);
        T.is("nobody", () -> x.host(0, 5), 0);
        x.book(0, 7, 0);
        T.is("the last", () -> x.host(0, 5), 128);
        x.book(0, 7, 1);
        T.is("once though booked in two quarters", () -> x.host(0, 5), 128);
        for (int q = 0; q < 8; q++) x.book(0, q == 0 ? 0 : q, q);
        T.is("all", () -> x.host(0, 5), 255);
    }

    private static void busy() {
        holds(8, "BUSY of a GUEST: QUARTERS in which it is BOOKED, as bits.");
        VisitingHours x = some(8, 1);
        T.is("nowhere", () -> x.guest(0, 3), 0);
        for (int q = 0; q < 8; q++) x.book(7 - q, 0, q);
        T.is("in all", () -> x.guest(0, 3), 255);
        x.strike(0, 7);
        T.is("in all but the last", () -> x.guest(0, 3), 127);
    }

    private static void liked() {
        holds(8, "LIKED of a GUEST: its RANKS by all HOSTS together.");
        T.is("without hosts", () -> some(0, 1).guest(0, 4), 0);
        T.is("by eight at first", () -> some(8, 8).guest(7, 4), 40);
        VisitingHours x = some(8, 1);
        for (int h = 0; h < 8; h++) x.value(h, 0, true, 9);
        for (int h = 0; h < 8; h++) x.value(h, 0, false, 1);
        T.is("by eight the most", () -> x.guest(0, 4), 72);
        x.value(7, 0, true, 0);
        T.is("by seven", () -> x.guest(0, 4), 63);
    }

    private static void ranks() {
        holds(9, "RANK of a GUEST by a HOST (by true), or of the HOST by the GUEST.");
        VisitingHours x = some(8, 8);
        Checks.ground(x, "likes 7 00000009;loves 7 00000008");
        T.is("by the host", () -> x.rank(7, 7, true), 9);
        T.is("by the guest", () -> x.rank(7, 7, false), 8);
        T.is("by the host, the first", () -> x.rank(7, 0, true), 0);
        T.is("by the guest, the first", () -> x.rank(0, 7, false), 0);
        T.is("another one", () -> 10 * x.rank(0, 7, true) + x.rank(7, 0, false), 55);
        allThrow("host", n -> x.rank(n, 0, true), INDEX, -1, 8);
        allThrow("guest", n -> x.rank(0, n, false), INDEX, -1, 8);
    }

    private static void bookedBySome() {
        holds(10, "`int booked(int host, int quarter) throws IndexOutOfBoundsException`: Who is BOOKED; NONE.");
        VisitingHours x = some(8, 8);
        for (int q = 0; q < 8; q++) {
            int quarter = q;
            T.is("nobody in " + q, () -> x.booked(quarter, quarter), NONE);
            x.book(q, 7 - q, q);
            T.is("who in " + q, () -> x.booked(quarter, quarter), 7 - q);
        }
        holds(10, "QUARTERS 0 to 7 of the afternoon.");
        T.is("the first and the last", () -> x.booked(0, 0) + x.booked(7, 7), 7);
        allThrow("quarter", q -> x.booked(0, q), INDEX, -1, 8, MIN, MAX);
        holds(10, "LIST: of each HOST in each QUARTER the GUEST that is BOOKED, or none (at first)");
        Checks.ground(x, "rain 0");
        for (int h = 0; h < 8; h++) {
            int host = h;
            T.is("one of eight of host " + h, () -> Integer.bitCount(x.host(host, 4)), 7);
        }
    }

    private static void hoursOfBoth() {
        holds(11, "CAN of a HOST, a GUEST and a QUARTER: the QUARTER is among the HOURS of both, and neither RANK is 0.");
        VisitingHours x = Checks.with("host patience 1 from 0 to 7;host patience 1 from 2 to 4;guest stay 4 from 0 to 7;guest stay 4 from 3 to 5");
        for (int q = 0; q < 8; q++) {
            int quarter = q;
            T.is("all hours, " + q, () -> x.can(0, 0, quarter), true);
            T.is("hours of the host, " + q, () -> x.can(1, 0, quarter), q >= 2 && q <= 4);
            T.is("hours of the guest, " + q, () -> x.can(0, 1, quarter), q >= 3 && q <= 5);
            T.is("hours of both, " + q, () -> x.can(1, 1, quarter), q == 3 || q == 4);
        }
    }

    private static void neverRanks() {
        holds(11, "`boolean can(int host, int guest, int quarter) throws IndexOutOfBoundsException`: CAN.");
        VisitingHours x = some(1, 1);
        int[][] ranks = {{0, 5}, {5, 0}, {0, 0}, {1, 1}, {1, 9}, {9, 1}};
        for (int[] r : ranks) {
            x.value(0, 0, true, r[0]);
            x.value(0, 0, false, r[1]);
            T.is("ranks " + r[0] + " and " + r[1], () -> x.can(0, 0, 7), r[0] > 0 && r[1] > 0);
        }
        x.gate(1, 0);
        T.is("let in or not", () -> x.can(0, 0, 7), true);
        x.book(0, 0, 7);
        T.is("booked or not", () -> x.can(0, 0, 7), true);
    }

    private static void counts() {
        holds(54, "11 acts that can be UNDONE. NONE for another what.");
        VisitingHours x = some(8, 8);
        for (int what : new int[] {-1, 12, 13, MIN, MAX}) T.is("what " + what, () -> x.count(what), NONE);
        holds(54, "3 LINES of THE LAW (NONE without one)");
        T.is("without one", () -> x.count(3), NONE);
        x.image();
        Checks.law(x, "");
        T.is("of none", () -> x.count(3), 0);
        Checks.law(x, lines("admit", 12));
        T.is("twelve", () -> x.count(3), 12);
        x.back();
        T.is("without one again", () -> x.count(3), NONE);
        holds(54, "6 MARKS that must be there, 7 MARKS that must not");
        T.is("none of both", () -> x.count(6) + x.count(7), 0);
        x.gate(63, 62);
        T.is("must", () -> x.count(6), 63);
        T.is("must not", () -> x.count(7), 62);
        x.back();
        holds(54, "8 how many are BOOKED, 9 GLADNESS of all together, 10 rows of THE LOG");
        for (int h = 0; h < 8; h++) for (int q = 0; q < 8; q++) x.book(h, (h + q) % 8, q);
        T.is("the most that can be booked", () -> x.count(8), 64);
        Checks.law(x, lines("glad 99", 12));
        x.weeks(1);
        T.is("gladness, the most of all", () -> x.count(9), 8 * 999);
        T.is("rows", () -> x.count(10), 60);
        T.is("acts", () -> x.count(11), 1);
    }
}
