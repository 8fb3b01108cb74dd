/** The paragraph ahead of promise 1: which exception is thrown, and that a refused call changes nothing else. */
final class RefusedBounds extends Bounds {
    private static final int ON_HOST = 1;
    private static final int ON_GUEST = 2;
    private static final int ON_QUARTER = 4;
    private static final String LEFT = "admit 5";

    interface Asked {
        Object of(VisitingHours x, int host, int guest, int quarter);
    }

    interface Act {
        void on(VisitingHours x);
    }

    static void all() {
        numbersOfNone();
        severalExceptions();
        statesThatCannotBe();
        changesNothing();
        tapeUsedUp();
        answersChangeNothing();
    }

    private static void numbersOfNone() {
        holds(7, "IndexOutOfBoundsException: there is no such HOST, GUEST, QUARTER.");
        index(7, ON_HOST, "host", (x, h, g, q) -> x.host(h, 0));
        index(8, ON_GUEST, "guest", (x, h, g, q) -> x.guest(g, 0));
        index(9, ON_HOST | ON_GUEST, "rank", (x, h, g, q) -> x.rank(h, g, true));
        index(10, ON_HOST | ON_QUARTER, "booked", (x, h, g, q) -> x.booked(h, q));
        index(11, ON_HOST | ON_GUEST | ON_QUARTER, "can", (x, h, g, q) -> x.can(h, g, q));
        index(12, ON_HOST | ON_GUEST | ON_QUARTER, "lets", (x, h, g, q) -> x.lets(h, g, q));
        index(13, ON_HOST | ON_GUEST | ON_QUARTER, "joy", (x, h, g, q) -> x.joy(h, g, q));
        index(14, ON_HOST | ON_GUEST | ON_QUARTER, "book", (x, h, g, q) -> x.book(h, g, q));
        index(15, ON_HOST | ON_QUARTER, "strike", (x, h, g, q) -> x.strike(h, q));
        index(16, ON_HOST | ON_QUARTER, "change, first", (x, h, g, q) -> x.change(h, h == 0 ? 7 : 0, q));
        index(16, ON_HOST | ON_QUARTER, "change, other", (x, h, g, q) -> x.change(h == 0 ? 7 : 0, h, q));
        index(17, ON_GUEST, "mark", (x, h, g, q) -> x.mark(g, 1));
        index(19, ON_HOST | ON_GUEST, "value", (x, h, g, q) -> x.value(h, g, false, 1));
        index(24, ON_HOST, "hostBest", (x, h, g, q) -> x.hostBest(h));
        index(25, ON_HOST, "guestBest", (x, h, g, q) -> x.guestBest(h));
        index(28, ON_HOST, "row", (x, h, g, q) -> x.row(h, 255, false));
        index(29, ON_QUARTER, "afternoon", (x, h, g, q) -> x.afternoon(q, NONE));
        index(29, ON_QUARTER, "afternoon", (x, h, g, q) -> x.afternoon(q, h));
        index(34, ON_HOST, "saved", (x, h, g, q) -> x.saved(h, 1));
        index(37, ON_QUARTER, "waits", (x, h, g, q) -> x.waits(1, q));
        index(38, ON_HOST, "treaty, first", (x, h, g, q) -> x.treaty(h, h == 0 ? 7 : 0));
        index(38, ON_HOST, "treaty, other", (x, h, g, q) -> x.treaty(h == 0 ? 7 : 0, h));
        index(39, ON_HOST | ON_GUEST, "rests", (x, h, g, q) -> x.rests(h, g));
        index(43, ON_HOST, "settle", (x, h, g, q) -> x.settle(h));
        index(45, ON_HOST, "ahead", (x, h, g, q) -> x.ahead(h, 1, 0));
        index(48, ON_HOST, "led", (x, h, g, q) -> x.led(h, false));
    }

    /** Among eight and eight, the first and the last are there, and those beside them are not; among none, none is. */
    private static void index(int promise, int looked, String what, Asked asked) {
        holds(promise, "IndexOutOfBoundsException: there is no such HOST, GUEST, QUARTER.");
        for (int n : new int[] {-1, 8, 255, MIN, MAX}) {
            if ((looked & ON_HOST) != 0) T.is(what + " of host " + n, () -> asked.of(some(8, 8), n, 0, 0), INDEX);
            if ((looked & ON_GUEST) != 0) T.is(what + " of guest " + n, () -> asked.of(some(8, 8), 0, n, 0), INDEX);
            if ((looked & ON_QUARTER) != 0) T.is(what + " of quarter " + n, () -> asked.of(some(8, 8), 0, 0, n), INDEX);
        }
        for (int n : new int[] {0, 7}) {
            VisitingHours x = some(8, 8);
            x.book(n, n, n);
            x.undo();
            x.book(n, 7 - n, n);
            T.is(what + " of " + n + " is there", () -> asked.of(x, n, n, n) != null, true);
        }
        if ((looked & ON_HOST) != 0) T.is(what + " without hosts", () -> asked.of(some(0, 8), 0, 0, 0), INDEX);
        if ((looked & ON_GUEST) != 0) T.is(what + " without guests", () -> asked.of(some(8, 0), 0, 0, 0), INDEX);
    }

    private static void severalExceptions() {
        holds(45, "Of several exceptions the one told first is thrown;");
        VisitingHours x = some(2, 1);
        T.is("host", () -> x.host(2, 7), INDEX);
        T.is("guest", () -> x.guest(1, 6), INDEX);
        T.is("book: no quarter, and it cannot", () -> {
            x.value(0, 0, true, 0);
            return x.book(0, 0, 8);
        }, INDEX);
        T.is("book: no guest", () -> x.book(0, 1, 0), INDEX);
        T.is("strike: no quarter, and nobody", () -> x.strike(0, -1), INDEX);
        T.is("change: no quarter, and both are one", () -> x.change(1, 1, 8), INDEX);
        T.is("change: no host, and both are one", () -> x.change(2, 2, 0), INDEX);
        T.is("mark: no guest, and no marks", () -> x.mark(1, 64), INDEX);
        T.is("value: no host, and no rank", () -> x.value(2, 0, true, 10), INDEX);
        T.is("value: no guest, and no rank", () -> x.value(0, 1, true, 10), INDEX);
        T.is("waits: no quarter, and no weeks", () -> x.waits(9, 8), INDEX);
        T.is("treaty: no host, and both are one", () -> x.treaty(2, 2), INDEX);
        T.is("ahead: no host, no weeks, no what", () -> x.ahead(2, 61, 2), INDEX);
        T.is("ahead: no host, no what", () -> x.ahead(2, 60, 2), INDEX);
        T.is("ahead: no weeks, no what", () -> x.ahead(1, 61, 2), ARGUMENT);
        T.is("ahead: no what", () -> x.ahead(1, 60, 2), ELEMENT);
        holds(4, "Of several exceptions the one told first is thrown;");
        VisitingHours y = new VisitingHours();
        for (int i = 0; i < 12; i++) Checks.ground(y, "");
        wrongGround(y, "rain", 4);
        T.is("ground: full", () -> Checks.ground(y, "rain 5"), FULL);
    }

    private static void statesThatCannotBe() {
        holds(14, "IllegalStateException: it cannot be.");
        VisitingHours x = some(1, 1);
        T.is("strike", () -> x.strike(0, 0), STATE);
        x.book(0, 0, 0);
        T.is("book", () -> x.book(0, 0, 0), STATE);
        T.is("strike", () -> x.strike(0, 0), 0);
        T.is("book", () -> x.book(0, 0, 0), NONE);
    }

    /** Something of all that there is: a law, a log, acts, an image, a fault, and a TAPE with seven bytes. */
    private static VisitingHours scene() {
        VisitingHours x = Checks.with("host patience 2 from 0 to 3;host patience 0 from 2 to 5;guest stay 2 from 0 to 5 marks ab;guest stay 1 from 1 to 7;rain 40;week 7;needs a;likes 1 47",
            "glad 2 if rank>4;admit if quarter>1");
        x.image();
        x.book(0, 0, 3);
        x.weeks(1);
        wrongLaw(x, "admit if", 8);
        Checks.tell(x, LEFT);
        return x;
    }

    private static String now(VisitingHours x) {
        StringBuilder s = new StringBuilder();
        for (int what = 0; what < 12; what++) s.append(x.count(what)).append(' ');
        for (int h = 0; h < x.count(0); h++) {
            for (int what = 0; what < 6; what++) s.append(x.host(h, what)).append(' ');
            for (int q = 0; q < 8; q++) s.append(x.booked(h, q)).append(' ');
            for (int g = 0; g < x.count(1); g++) s.append(x.rank(h, g, true)).append(x.rank(h, g, false)).append(' ');
        }
        for (int g = 0; g < x.count(1); g++) for (int what = 0; what < 4; what++) s.append(x.guest(g, what)).append(' ');
        for (int ago = 0; ago < x.count(10); ago++) for (int what = 0; what < 6; what++) s.append(x.log(ago, what)).append(' ');
        int seed = x.seed(0);
        x.seed(seed);
        return s.append(seed).append(' ').append(x.joy(0, 0, 3)).append(x.lets(0, 1, 1)).append('\n').toString();
    }

    /** All that calls can tell of an object, of what is remembered and of THE IMAGE; it is not the same behind that. */
    private static String tellAll(VisitingHours x) {
        StringBuilder s = new StringBuilder("fault ").append(x.fault()).append('\n').append(now(x));
        while (x.undo()) s.append(now(x));
        int length = x.feed(0, 0, 0, 0, 0) - 20;
        x.end(length);
        s.append("tape ").append(length).append(' ');
        try {
            s.append(x.law());
        } catch (IllegalArgumentException e) {
            s.append("wrong at ").append(x.fault());
        }
        return s.append(x.back()).append('\n').append(now(x)).toString();
    }

    private static void refused(String what, Act act, Class<?> thrown, String due) {
        VisitingHours x = scene();
        T.is(what, () -> {
            act.on(x);
            return "nothing";
        }, thrown);
        T.due("all behind " + what, tellAll(x), due);
    }

    private static void changesNothing() {
        holds(20, "a call that throws changes nothing but the TAPE, where it is used up, and fault(), where a text is read (also by one that is refused).");
        String due = tellAll(scene());
        T.due("the scene tells its tape", due.contains("tape 7 wrong at 6true"), true);
        refused("host", x -> x.host(2, 0), INDEX, due);
        refused("host what", x -> x.host(0, 7), ELEMENT, due);
        refused("guest", x -> x.guest(-1, 0), INDEX, due);
        refused("guest what", x -> x.guest(0, 6), ELEMENT, due);
        refused("rank", x -> x.rank(0, 2, true), INDEX, due);
        refused("booked", x -> x.booked(0, 8), INDEX, due);
        refused("can", x -> x.can(0, 0, 8), INDEX, due);
        refused("lets", x -> x.lets(0, 2, 0), INDEX, due);
        refused("joy", x -> x.joy(2, 0, 0), INDEX, due);
        refused("book of none", x -> x.book(0, 0, 8), INDEX, due);
        refused("book that cannot", x -> x.book(0, 0, 4), STATE, due);
        refused("book that is", x -> x.book(0, 0, 3), STATE, due);
        refused("book that is with another one", x -> x.book(1, 0, 3), STATE, due);
        refused("strike of none", x -> x.strike(2, 0), INDEX, due);
        refused("strike of nobody", x -> x.strike(0, 0), STATE, due);
        refused("change of none", x -> x.change(0, 2, 3), INDEX, due);
        refused("change of one", x -> x.change(0, 0, 3), ARGUMENT, due);
        refused("mark of none", x -> x.mark(2, 0), INDEX, due);
        refused("mark", x -> x.mark(0, 64), ARGUMENT, due);
        refused("gate must", x -> x.gate(64, 0), ARGUMENT, due);
        refused("gate must not", x -> x.gate(0, 64), ARGUMENT, due);
        refused("value of none", x -> x.value(2, 0, true, 1), INDEX, due);
        refused("value", x -> x.value(0, 0, true, 10), ARGUMENT, due);
        refused("weeks 0", x -> x.weeks(0), ARGUMENT, due);
        refused("weeks 61", x -> x.weeks(61), ARGUMENT, due);
        refused("hostBest", x -> x.hostBest(2), INDEX, due);
        refused("guestBest", x -> x.guestBest(2), INDEX, due);
        refused("row", x -> x.row(2, 3, true), INDEX, due);
        refused("afternoon", x -> x.afternoon(8, NONE), INDEX, due);
        refused("afternoon of none", x -> x.afternoon(0, 2), INDEX, due);
        refused("saved", x -> x.saved(2, 8), INDEX, due);
        refused("lend", x -> x.lend(2), INDEX, due);
        refused("odds", x -> x.odds(8, 0), ARGUMENT, due);
        refused("waits", x -> x.waits(9, 0), ARGUMENT, due);
        refused("waits of none", x -> x.waits(8, 8), INDEX, due);
        refused("treaty", x -> x.treaty(0, 2), INDEX, due);
        refused("treaty of one", x -> x.treaty(0, 0), ARGUMENT, due);
        refused("rests", x -> x.rests(0, 2), INDEX, due);
        refused("settle", x -> x.settle(2), INDEX, due);
        refused("gladder", x -> x.gladder(61), ARGUMENT, due);
        refused("ahead", x -> x.ahead(2, 5, 0), INDEX, due);
        refused("ahead, weeks", x -> x.ahead(0, 61, 0), ARGUMENT, due);
        refused("ahead, what", x -> x.ahead(0, 60, 2), ELEMENT, due);
        refused("trial", x -> x.trial(61, true), ARGUMENT, due);
        refused("span", x -> x.span(61, true), ARGUMENT, due);
        refused("led", x -> x.led(2, true), INDEX, due);
        refused("log", x -> x.log(0, 6), ELEMENT, due);
    }

    private static void tapeUsedUp() {
        holds(4, "a call that throws changes nothing but the TAPE, where it is used up, and fault(), where a text is read (also by one that is refused).");
        String due = tellAll(scene()).replace("tape 7 wrong at 6", "tape 0 0");
        refused("rather", x -> x.rather(), ARGUMENT, due);
        refused("rules", x -> x.rules(true), ARGUMENT, due);
        refused("send", x -> x.send(), ARGUMENT, due);
        refused("hand", x -> x.hand(true), ARGUMENT, due);
        refused("a wrong law", x -> x.law(), ARGUMENT, due.replace("fault 8", "fault 6"));
        refused("a wrong ground", x -> x.ground(), ARGUMENT, due.replace("fault 8", "fault 0"));
        VisitingHours x = new VisitingHours();
        for (int i = 0; i < 12; i++) Checks.ground(x, "");
        wrongLaw(x, "admit if", 8);
        T.is("a text that is refused", () -> Checks.ground(x, HOST), FULL);
        T.is("its tape", () -> tapeLength(x), 0);
        T.is("it was read", x::fault, NONE);
        T.is("nothing of it stays", () -> x.count(0), 0);
    }

    private static void answersChangeNothing() {
        holds(46, "(draws, too; nothing stays)");
        String due = tellAll(scene());
        VisitingHours x = scene();
        x.meetings(true);
        x.twice();
        x.taboo();
        x.hostBest(1);
        x.guestBest(0);
        x.ways();
        x.row(0, 3, true);
        x.afternoon(3, 1);
        x.dry();
        x.saved(0, 8);
        x.lend(1);
        x.odds(7, 3);
        x.waits(8, 7);
        x.treaty(0, 1);
        x.rests(1, 1);
        x.dearest();
        x.forlorn();
        x.alike();
        x.settle(0);
        x.gladder(60);
        x.ahead(1, 60, 1);
        x.trial(60, true);
        x.span(60, true);
        x.led(0, true);
        x.feed(0, 0, 0, 0, 0);
        x.end(7);
        T.due("all behind calls that only answer", tellAll(x), due);
    }
}
