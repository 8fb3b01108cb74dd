/** Promises 21 to 23 and 33 to 35: what THE LIST is worth, what must stay dry, what can be saved, and whom to lend. */
final class ListBounds extends Bounds {
    static void all() {
        nothingBooked();
        allBooked();
        gladOfAll();
        twiceWithTwo();
        tabooOnce();
        dryOfNone();
        dryFewest();
        savedNone();
        savedPlaces();
        savedBits();
        lendMost();
        lendFirstWay();
        oneBehindAnother();
        lendRefused();
    }

    /** Eight HOSTS and eight GUESTS, all BOOKED in all QUARTERS. */
    private static VisitingHours crowd() {
        VisitingHours x = some(8, 8);
        for (int h = 0; h < 8; h++) for (int q = 0; q < 8; q++) x.book(h, (h + q) % 8, q);
        return x;
    }

    private static void nothingBooked() {
        holds(21, "MEETINGS: how many there would be in a WEEK without rain now;");
        for (VisitingHours x : new VisitingHours[] {new VisitingHours(), some(8, 0), some(0, 8), some(8, 8)}) {
            T.due("meetings", x.meetings(false), 0);
            T.due("glad", x.meetings(true), 0);
            T.due("twice", x.twice(), 0);
            T.due("taboo", x.taboo(), 0);
            T.due("dry", x.dry(), 0);
            T.due("booked", x.count(8), 0);
        }
        VisitingHours y = some(1, 1);
        y.book(0, 0, 0);
        Checks.ground(y, "rain 100");
        T.is("rain is not looked at", () -> y.meetings(false), 1);
        y.gate(1, 0);
        T.is("one that is not let in", () -> y.meetings(false), 0);
        y.gate(0, 0);
        y.value(0, 0, false, 0);
        T.is("one that cannot", () -> y.meetings(true), 0);
    }

    private static void allBooked() {
        holds(21, "MEETINGS (glad false), or GLAD.");
        VisitingHours x = crowd();
        T.is("the most meetings", () -> x.meetings(false), 64);
        T.is("glad", () -> x.meetings(true), 320);
        T.is("as many as meet", () -> x.weeks(1), 64);
        T.is("taboo", x::taboo, 0);
        T.is("twice", x::twice, 255);
        T.is("dry", x::dry, 1);
        T.is("lend", () -> x.lend(NONE), 0);
        x.gate(1, 0);
        T.is("nobody is let in", () -> x.meetings(false), 0);
        T.is("taboo", x::taboo, 64);
        T.is("dry", x::dry, 0);
    }

    private static void gladOfAll() {
        holds(21, "GLAD: JOY of these together, each by all as it is now.");
        VisitingHours x = crowd();
        Checks.law(x, lines("glad 99", 12));
        T.is("no bound of 999", () -> x.meetings(true), 64 * (5 + 12 * 99));
        x.weeks(1);
        T.is("gladness now is not looked at", () -> x.meetings(true), 64 * (5 + 12 * 99));
        Checks.law(x, "sour 99");
        T.is("0 each at least", () -> x.meetings(true), 0);
        T.is("they meet all the same", () -> x.meetings(false), 64);
        Checks.law(x, "glad 10 if lonely>0;glad 20 if week>1");
        T.is("as it is now", () -> x.meetings(true), 320);
        x.weeks(1);
        T.is("as it is a week later", () -> x.meetings(true), 64 * 25);
    }

    private static void twiceWithTwo() {
        holds(22, "TWICE: GUESTS that are BOOKED with two HOSTS, as bits.");
        VisitingHours x = some(8, 8);
        for (int q = 0; q < 8; q++) x.book(0, 7, q);
        T.is("with one host in all quarters", x::twice, 0);
        x.strike(0, 0);
        x.book(7, 7, 0);
        T.is("with two", x::twice, 128);
        x.book(7, 0, 7);
        x.book(6, 0, 6);
        T.is("the first and the last", x::twice, 129);
        x.strike(0, 3);
        x.book(3, 7, 3);
        T.is("with three", x::twice, 129);
        x.strike(6, 6);
        T.is("with one again", x::twice, 128);
        x.gate(1, 0);
        T.is("let in or not", x::twice, 128);
    }

    private static void tabooOnce() {
        holds(23, "TABOO: how many are BOOKED that CANNOT, or are not LET IN.");
        VisitingHours x = some(2, 2);
        x.book(0, 0, 0);
        x.book(0, 1, 1);
        x.book(1, 1, 7);
        T.is("none", x::taboo, 0);
        x.value(0, 0, true, 0);
        T.is("one cannot", x::taboo, 1);
        x.gate(1, 0);
        T.is("it is not let in, too, and counts once", x::taboo, 3);
        x.mark(1, 1);
        T.is("one that cannot", x::taboo, 1);
        x.mark(0, 1);
        T.is("let in, and cannot", x::taboo, 1);
        x.value(0, 0, true, 1);
        T.is("none", x::taboo, 0);
        VisitingHours y = Checks.with("host patience 1 from 0 to 1;host patience 1 from 1 to 2;" + GUEST);
        y.book(0, 0, 0);
        y.change(0, 1, 0);
        T.is("out of the hours", y::taboo, 1);
        Checks.law(y, "admit");
        T.is("let in out of the hours", y::taboo, 1);
    }

    private static void dryOfNone() {
        holds(33, "DRY: of sets of QUARTERS the fewest that must stay dry so that each HOST that would MEET somebody now MEETS somebody");
        VisitingHours x = some(8, 1);
        T.is("nobody", x::dry, 0);
        for (int q = 0; q < 8; q++) {
            int due = (1 << q + 1) - 1;
            x.book(q, 0, q);
            T.is("each in one of its own", x::dry, due);
        }
        x.value(7, 0, true, 0);
        T.is("one that would meet nobody", x::dry, 127);
        x.gate(1, 0);
        T.is("nobody would", x::dry, 0);
    }

    private static void dryFewest() {
        holds(33, "of several the least as bits.");
        VisitingHours x = some(3, 3);
        x.book(0, 0, 0);
        x.book(0, 0, 7);
        T.is("the least", x::dry, 1);
        x.book(1, 1, 1);
        x.book(1, 1, 7);
        T.is("one is fewer than two", x::dry, 128);
        x.book(2, 2, 5);
        T.is("two", x::dry, 160);
        x.book(2, 2, 1);
        T.is("the least of two", x::dry, 3);
        VisitingHours y = some(1, 1);
        y.book(0, 0, 7);
        T.is("the last quarter", y::dry, 128);
    }

    private static void savedNone() {
        holds(34, "SAVED of a HOST by told wet QUARTERS: the most of those that would MEET it now in wet QUARTERS (BOOKED, CAN, LET IN)");
        VisitingHours x = some(1, 2);
        T.is("nobody is booked", () -> x.saved(0, 255), 0);
        x.book(0, 0, 0);
        x.book(0, 1, 7);
        T.is("none is wet", () -> x.saved(0, 0), 0);
        T.is("all are wet", () -> x.saved(0, 255), 0);
        T.is("all but one", () -> x.saved(0, 253), 1);
        T.is("all but two", () -> x.saved(0, 249), 2);
        T.is("the first", () -> x.saved(0, 1), 1);
        T.is("the last", () -> x.saved(0, 128), 1);
        T.is("both", () -> x.saved(0, 129), 2);
        T.is("wet where nobody is", () -> x.saved(0, 126), 0);
        x.gate(1, 0);
        x.mark(1, 1);
        T.is("one that is not let in", () -> x.saved(0, 129), 1);
        x.value(0, 1, false, 0);
        T.is("one that cannot", () -> x.saved(0, 129), 0);
    }

    private static void savedPlaces() {
        holds(34, "that can be put into other QUARTERS, each another one, that are dry, FREE with it, in HOURS of that GUEST, and in which that GUEST is not BOOKED: how many.");
        VisitingHours x = Checks.with("host patience 1 from 0 to 2;" + HOST + ";guest stay 4 from 0 to 1;guest stay 4 from 1 to 7");
        x.book(0, 0, 0);
        x.book(0, 1, 1);
        T.is("one place for two", () -> x.saved(0, 3), 1);
        T.is("out of the guest's hours", () -> x.saved(0, 1), 0);
        T.is("in the guest's hours", () -> x.saved(0, 2), 1);
        x.book(1, 1, 2);
        T.is("where it is booked with another host", () -> x.saved(0, 2), 0);
        x.strike(1, 2);
        x.book(0, 1, 2);
        T.is("where the host is not free", () -> x.saved(0, 2), 0);
        Checks.law(x, "admit if quarter<1");
        x.strike(0, 1);
        T.is("in a quarter in which it is not let in", () -> x.saved(0, 1), 1);
        VisitingHours z = some(1, 1);
        z.book(0, 0, 7);
        for (int q = 0; q < 7; q++) {
            int dry = 1 << q;
            T.is("the one dry quarter " + q, () -> z.saved(0, ~dry), 1);
        }
        VisitingHours y = some(1, 1);
        for (int q = 0; q < 4; q++) y.book(0, 0, q);
        T.is("four of one guest", () -> y.saved(0, 15), 4);
        y.book(0, 0, 4);
        T.is("three places", () -> y.saved(0, 31), 3);
        allThrow("host", h -> y.saved(h, 1), INDEX, -1, 1, MIN, MAX);
    }

    private static void savedBits() {
        holds(34, "Sets are bits; of none they count for nothing.");
        VisitingHours x = some(1, 1);
        x.book(0, 0, 0);
        T.is("of no quarter", () -> x.saved(0, 256), 0);
        T.is("of one, and of none", () -> x.saved(0, 257), 1);
        T.is("of all", () -> x.saved(0, -1), 0);
        T.is("of all but one", () -> x.saved(0, -3), 1);
        T.is("the highest bit alone", () -> x.saved(0, MIN), 0);
        T.is("the highest bit, too", () -> x.saved(0, MIN + 1), 1);
    }

    private static void lendMost() {
        holds(35, "LEND: GUESTS that are BOOKED nowhere, each to one HOST that has nobody BOOKED, each another one, no RANK 0, so that RANKS by the HOSTS together are the most: how much;");
        T.is("without anybody", () -> new VisitingHours().lend(NONE), 0);
        T.is("without guests", () -> some(8, 0).lend(NONE), 0);
        T.is("without hosts", () -> some(0, 8).lend(NONE), 0);
        T.is("eight at first", () -> some(8, 8).lend(NONE), 40);
        VisitingHours x = some(2, 2);
        Checks.ground(x, "likes 0 98;likes 1 81");
        T.is("16 is more than 10", () -> x.lend(NONE), 16);
        x.value(1, 0, false, 0);
        T.is("no rank 0 by the guest", () -> x.lend(NONE), 10);
        x.value(0, 0, true, 0);
        T.is("no rank 0 by the host", () -> x.lend(NONE), 8);
        x.book(1, 1, 7);
        T.is("one that is booked, and the host that has it", () -> x.lend(NONE), 0);
        x.strike(1, 7);
        T.is("struck", () -> x.lend(NONE), 8);
        VisitingHours y = Checks.with("host patience 1 from 0 to 0;guest stay 4 from 7 to 7;needs a");
        T.is("hours, stay and the gate are not looked at", () -> y.lend(NONE), 5);
    }

    private static void lendFirstWay() {
        holds(35, "to whom a GUEST goes in the first such way (GUEST by GUEST, none being the least, then the HOSTS); none.");
        VisitingHours x = some(2, 3);
        int[] due = {NONE, 0, 1};
        for (int g = 0; g < 3; g++) T.due("guest " + g, x.lend(g), due[g]);
        x.value(1, 0, true, 6);
        T.is("none, if that is less, is not taken", () -> x.lend(0), 1);
        T.is("none", () -> x.lend(1), NONE);
        T.is("the other host", () -> x.lend(2), 0);
        x.book(0, 1, 0);
        T.is("one that is booked", () -> x.lend(1), NONE);
        T.is("one for whom no host is left", () -> x.lend(2), NONE);
        VisitingHours y = some(8, 8);
        for (int g = 0; g < 8; g++) T.due("of like ones", y.lend(g), g);
    }

    private static void oneBehindAnother() {
        holds(35, "none being the least, then the HOSTS); none.");
        int[][] sizes = {{2, 5}, {5, 2}, {0, 3}, {3, 0}, {8, 8}, {1, 8}, {8, 1}};
        for (int[] size : sizes) {
            VisitingHours x = some(size[0], size[1]);
            int less = Math.min(size[0], size[1]);
            for (int i = 0; i < 2; i++) {
                T.due("lend", x.lend(NONE), 5 * less);
                T.due("afternoon", x.afternoon(0, NONE), less);
                if (size[0] > 0) T.due("saved", x.saved(0, 255), 0);
                T.due("afternoon again", x.afternoon(7, NONE), less);
                T.due("lend again", x.lend(NONE), 5 * less);
            }
        }
        VisitingHours x = new VisitingHours();
        x.image();
        Checks.ground(x, lines(HOST, 8));
        Checks.ground(x, lines(GUEST, 8));
        T.is("eight", () -> x.lend(NONE) + x.afternoon(0, NONE), 48);
        x.back();
        T.is("none again", () -> x.lend(NONE) + x.afternoon(0, NONE), 0);
    }

    private static void lendRefused() {
        holds(35, "LEND: how much (guest NONE), or to whom one goes; NONE. IndexOutOfBoundsException: there is no such GUEST.");
        allThrow("guest", some(8, 2)::lend, INDEX, -2, 2, 8, MIN, MAX);
        allThrow("guest of none", new VisitingHours()::lend, INDEX, -2, 0, MIN, MAX);
        T.is("the last", () -> some(1, 8).lend(7), 0);
    }
}
