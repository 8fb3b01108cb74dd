/** Promises 14 to 19 and 50 to 53: ACTS that are told, SEED, UNDONE, and THE IMAGE. */
final class ActBounds extends Bounds {
    static void all() {
        bookWho();
        bookRefused();
        oneQuarterOneHost();
        strike();
        changeTwo();
        changeOne();
        mark();
        gate();
        value();
        seed();
        undoNone();
        undoTwelve();
        undoEachAct();
        undoOfRows();
        textsForget();
        undoLeaves();
        imageOne();
        backNone();
        backLeaves();
    }

    private static void bookWho() {
        holds(14, "BOOKED: who was BOOKED there; NONE.");
        VisitingHours x = some(1, 8);
        T.is("nobody", () -> x.book(0, 0, 0), NONE);
        T.is("the first", () -> x.book(0, 7, 0), 0);
        T.is("the last", () -> x.book(0, 1, 0), 7);
        T.is("those that were are so no more", () -> x.guest(0, 3) + x.guest(7, 3), 0);
        T.is("nobody in the last quarter", () -> x.book(0, 7, 7), NONE);
        T.is("how many", () -> x.count(8), 2);
    }

    private static void bookRefused() {
        holds(14, "IllegalStateException: it CANNOT, or that GUEST is BOOKED in that QUARTER (with this one, too).");
        VisitingHours x = Checks.with("host patience 1 from 1 to 6;host patience 1 from 0 to 7;guest stay 4 from 0 to 7;guest stay 1 from 2 to 5");
        allThrow("out of the host's hours", q -> x.book(0, 0, q), STATE, 0, 7);
        allThrow("out of the guest's hours", q -> x.book(1, 1, q), STATE, 0, 1, 6, 7);
        x.value(0, 0, true, 0);
        T.is("never with it", () -> x.book(0, 0, 3), STATE);
        x.value(0, 0, true, 1);
        x.value(0, 0, false, 0);
        T.is("never to it", () -> x.book(0, 0, 3), STATE);
        x.value(0, 0, false, 1);
        T.is("ranks of 1", () -> x.book(0, 0, 3), NONE);
        T.is("with this one", () -> x.book(0, 0, 3), STATE);
        T.is("with another one", () -> x.book(1, 0, 3), STATE);
        T.is("in the next quarter", () -> x.book(1, 0, 4), NONE);
        T.is("in the one before", () -> x.book(1, 0, 2), NONE);
        T.is("the first of its hours", () -> x.book(0, 1, 2), NONE);
        T.is("the last of its hours", () -> x.book(0, 1, 5), NONE);
        x.gate(1, 0);
        T.is("let in or not", () -> x.book(0, 0, 6), NONE);
        x.strike(1, 4);
        T.is("a guest that was struck", () -> x.book(0, 0, 4), NONE);
    }

    private static void oneQuarterOneHost() {
        holds(14, "no GUEST is BOOKED with two HOSTS in one QUARTER.");
        VisitingHours x = some(8, 1);
        x.book(3, 0, 0);
        allThrow("another host", h -> x.book(h, 0, 0), STATE, 0, 1, 2, 3, 4, 5, 6, 7);
        x.change(3, 7, 0);
        allThrow("changed", h -> x.book(h, 0, 0), STATE, 0, 1, 2, 3, 4, 5, 6, 7);
        x.strike(7, 0);
        T.is("struck", () -> x.book(0, 0, 0), NONE);
        T.is("once", () -> x.count(8), 1);
    }

    private static void strike() {
        holds(15, "Struck: who was BOOKED. IllegalStateException: nobody was.");
        VisitingHours x = some(2, 2);
        T.is("nobody at first", () -> x.strike(0, 0), STATE);
        x.book(0, 0, 0);
        x.book(1, 1, 7);
        T.is("another host", () -> x.strike(1, 0), STATE);
        T.is("another quarter", () -> x.strike(0, 7), STATE);
        T.is("guest 0", () -> x.strike(0, 0), 0);
        T.is("the last one in the last quarter", () -> x.strike(1, 7), 1);
        T.is("again", () -> x.strike(0, 0), STATE);
        T.is("nobody is left", () -> x.count(8), 0);
        T.is("acts", () -> x.count(11), 4);
    }

    private static void changeTwo() {
        holds(16, "Two HOSTS change: who is BOOKED with the first one then; NONE.");
        VisitingHours x = some(8, 8);
        T.is("nobody with both", () -> x.change(0, 7, 0), NONE);
        T.is("it is an act", () -> x.count(11), 1);
        x.book(0, 7, 0);
        x.book(0, 6, 1);
        T.is("nobody comes", () -> x.change(0, 7, 0), NONE);
        T.is("it went", () -> x.booked(7, 0), 7);
        T.is("it comes again", () -> x.change(0, 7, 0), 7);
        x.book(7, 0, 0);
        T.is("guest 0 for guest 7", () -> x.change(0, 7, 0), 0);
        T.is("guest 7 for guest 0", () -> x.booked(7, 0), 7);
        T.is("in no other quarter", () -> x.booked(0, 1), 6);
        VisitingHours y = Checks.with("host patience 1 from 0 to 1;host patience 1 from 7 to 7;" + GUEST);
        y.book(0, 0, 0);
        T.is("one that cannot come, comes", () -> y.change(1, 0, 0), 0);
        T.is("and is booked", () -> y.booked(1, 0), 0);
    }

    private static void changeOne() {
        holds(16, "IllegalArgumentException: both are one.");
        VisitingHours x = some(8, 1);
        x.book(7, 0, 7);
        allThrow("both are", h -> x.change(h, h, 7), ARGUMENT, 0, 3, 7);
        T.is("it stays", () -> x.booked(7, 7), 0);
        T.is("it is no act", () -> x.count(11), 1);
        allThrow("both are no host", h -> x.change(h, h, 0), INDEX, -1, 8, MIN, MAX);
        T.is("both are one in no quarter", () -> x.change(0, 0, 8), INDEX);
    }

    private static void mark() {
        holds(17, "MARKS are told: what they were. IllegalArgumentException: they are none (0 to 63).");
        VisitingHours x = some(1, 8);
        T.is("at first", () -> x.mark(7, 63), 0);
        T.is("the most", () -> x.mark(7, 0), 63);
        T.is("none", () -> x.guest(7, 2), 0);
        T.is("of another one", () -> x.mark(0, 1), 0);
        allThrow("marks", n -> x.mark(0, n), ARGUMENT, -1, 64, 65, 127, MIN, MAX);
        T.is("they stay", () -> x.guest(0, 2), 1);
        T.is("the same again is an act", () -> x.mark(0, 1) + x.count(11), 5);
    }

    private static void gate() {
        holds(18, "GATE is told: 64 times those that had to be there and those that had not. IllegalArgumentException: they are none (each 0 to 63).");
        VisitingHours x = new VisitingHours();
        T.is("at first", () -> x.gate(63, 0), 0);
        T.is("those that must", () -> x.gate(0, 63), 64 * 63);
        T.is("those that must not", () -> x.gate(63, 63), 63);
        T.is("all of both", () -> x.gate(1, 2), 64 * 63 + 63);
        allThrow("must", n -> x.gate(n, 0), ARGUMENT, -1, 64, MIN, MAX);
        allThrow("must not", n -> x.gate(0, n), ARGUMENT, -1, 64, MIN, MAX);
        T.is("they stay", () -> 64 * x.count(6) + x.count(7), 66);
        T.is("acts", () -> x.count(11), 4);
        holds(18, "GATE: MARKS that must be there and MARKS that must not, as bits (none of both at first).");
        T.is("of a new one", () -> new VisitingHours().gate(0, 0), 0);
    }

    private static void value() {
        holds(19, "A RANK is told (of the GUEST by the HOST, or of the HOST by the GUEST): what it was. IllegalArgumentException: it is none (0 to 9).");
        VisitingHours x = some(8, 8);
        T.is("at first, by the host", () -> x.value(7, 0, true, 9), 5);
        T.is("at first, by the guest", () -> x.value(7, 0, false, 0), 5);
        T.is("9", () -> x.value(7, 0, true, 0), 9);
        T.is("0", () -> x.value(7, 0, false, 9), 0);
        T.is("what they are", () -> 10 * x.rank(7, 0, true) + x.rank(7, 0, false), 9);
        T.is("of another one", () -> 10 * x.rank(0, 7, true) + x.rank(0, 7, false), 55);
        allThrow("rank by the host", n -> x.value(7, 0, true, n), ARGUMENT, -1, 10, MIN, MAX);
        allThrow("rank by the guest", n -> x.value(7, 0, false, n), ARGUMENT, -1, 10, MIN, MAX);
        T.is("they stay", () -> 10 * x.rank(7, 0, true) + x.rank(7, 0, false), 9);
        T.is("acts", () -> x.count(11), 4);
    }

    private static void seed() {
        holds(50, "`int seed(int n)`: SEED: what it was.");
        VisitingHours x = new VisitingHours();
        int[] seeds = {1, 0, -1, MAX, MIN, 12345};
        for (int i = 0; i + 1 < seeds.length; i++) {
            int n = i;
            T.is("it was", () -> x.seed(seeds[n + 1]), seeds[n]);
        }
        T.is("it is no act", () -> x.count(11), 0);
        holds(50, "bits 16 to 30 (SEED 1 at first)");
        T.is("at first", () -> new VisitingHours().seed(0), 1);
    }

    private static void undoNone() {
        holds(51, "UNDONE: whether there was one.");
        VisitingHours x = new VisitingHours();
        T.is("no act yet", x::undo, false);
        x.gate(1, 2);
        T.is("one", x::undo, true);
        T.is("none is left", x::undo, false);
        T.is("as it was", () -> x.count(6) + x.count(7), 0);
        T.is("refused ones are none", () -> x.gate(64, 0), ARGUMENT);
        T.is("none", x::undo, false);
    }

    private static void undoTwelve() {
        holds(51, "UNDONE: the latest ACT not undone yet (12 are remembered; WEEKS of one call are one)");
        VisitingHours x = some(0, 1);
        for (int i = 1; i <= 12; i++) {
            x.mark(0, i);
            T.due("remembered", x.count(11), i);
        }
        for (int i = 11; i >= 0; i--) {
            T.is("undone", x::undo, true);
            T.due("marks", x.guest(0, 2), i);
            T.due("remembered", x.count(11), i);
        }
        T.is("none is left", x::undo, false);
        holds(51, "an ACT that went as the thirteenth came is remembered no more");
        for (int i = 1; i <= 14; i++) {
            x.mark(0, i);
            T.due("remembered of " + i, x.count(11), Math.min(i, 12));
        }
        for (int i = 13; i >= 2; i--) {
            T.is("undone", x::undo, true);
            T.due("marks", x.guest(0, 2), i);
        }
        T.is("the second one is remembered no more", x::undo, false);
        x.mark(0, 60);
        x.undo();
        T.is("as it is ahead of a new one", () -> x.guest(0, 2), 2);
        for (int i = 1; i <= 12; i++) x.mark(0, i);
        x.undo();
        x.undo();
        x.mark(0, 61);
        T.is("eleven", () -> x.count(11), 11);
        x.undo();
        T.is("not the one that was undone", () -> x.guest(0, 2), 10);
        x.weeks(60);
        x.undo();
        T.is("all weeks of one call", () -> x.count(4), 0);
    }

    private static void undoEachAct() {
        holds(51, "ACTS: a GUEST is BOOKED; what is BOOKED is struck; two HOSTS change all that is BOOKED with them in one QUARTER; MARKS of a GUEST are told; "
            + "GATE is told; a RANK is told (of a HOST, or of a GUEST); WEEKS.");
        VisitingHours x = Checks.with("host patience 0 from 0 to 7;" + HOST + ";" + GUEST + ";rain 50");
        x.book(0, 0, 0);
        x.strike(0, 0);
        x.change(0, 1, 0);
        x.mark(0, 0);
        x.gate(0, 0);
        x.value(0, 0, true, 5);
        x.value(0, 0, false, 5);
        x.weeks(1);
        T.is("each is one, though it leaves all as it is", () -> x.count(11), 8);
        x.seed(3);
        x.feed(0, 0, 0, 0, 0);
        x.end(0);
        x.image();
        x.meetings(true);
        x.trial(9, true);
        Checks.tell(x, 255, 255);
        x.rather();
        T.is("other calls are none", () -> x.count(11), 8);
        x.undo();
        T.is("week", () -> x.count(4), 0);
        T.is("rows", () -> x.count(10), 0);
        T.is("seed", () -> x.seed(1), 1);
        for (int i = 0; i < 6; i++) x.undo();
        T.is("the struck one", () -> x.booked(0, 0), 0);
        VisitingHours y = Checks.with("host patience 0 from 0 to 7;" + HOST + ";" + GUEST);
        y.book(0, 0, 0);
        y.book(1, 0, 1);
        y.mark(0, 9);
        y.gate(1, 2);
        y.value(1, 0, true, 3);
        y.value(0, 0, false, 7);
        y.change(0, 1, 0);
        y.weeks(1);
        y.strike(1, 1);
        T.is("strike", () -> y.undo() && y.booked(1, 1) == 0, true);
        T.is("weeks", () -> y.undo() && y.count(4) + y.count(9) + y.count(10) + y.host(0, 3) == 0, true);
        T.is("change", () -> y.undo() && y.booked(0, 0) == 0 && y.booked(1, 0) == NONE, true);
        T.is("value by the guest", () -> y.undo() && y.rank(0, 0, false) == 5, true);
        T.is("value by the host", () -> y.undo() && y.rank(1, 0, true) == 5, true);
        T.is("gate", () -> y.undo() && y.count(6) + y.count(7) == 0, true);
        T.is("mark", () -> y.undo() && y.guest(0, 2) == 0, true);
        T.is("book", () -> y.undo() && y.booked(1, 1) == NONE, true);
        T.is("book", () -> y.undo() && y.booked(0, 0) == NONE, true);
        T.is("none is left", y::undo, false);
    }

    private static void undoOfRows() {
        holds(51, "(but for the TAPE, fault(), THE IMAGE;");
        VisitingHours x = Checks.with("host patience 0 from 0 to 7;host patience 1 from 0 to 7");
        x.weeks(40);
        StringBuilder rows = new StringBuilder();
        for (int ago = 0; ago < 60; ago++) rows.append(x.log(ago, 0)).append(x.log(ago, 1)).append(' ');
        x.weeks(60);
        T.is("all rows are others", () -> x.log(59, 0) > 40, true);
        x.undo();
        StringBuilder again = new StringBuilder();
        for (int ago = 0; ago < 60; ago++) again.append(x.log(ago, 0)).append(x.log(ago, 1)).append(' ');
        T.due("a full log as it was", again.toString(), rows.toString());
        x.undo();
        T.is("an empty log as it was", () -> x.count(10) + x.log(0, 0), -2);
    }

    private static void textsForget() {
        holds(51, "A text, going back: none are remembered.");
        VisitingHours x = some(0, 1);
        x.image();
        String[] texts = {"", "  ", "rain 5"};
        for (String text : texts) {
            x.mark(0, 1);
            Checks.ground(x, text);
            T.is("behind the ground «" + text + "»", x::undo, false);
        }
        for (String text : new String[] {"", "admit"}) {
            x.mark(0, 2);
            Checks.law(x, text);
            T.is("behind the law «" + text + "»", () -> x.count(11), 0);
            T.is("behind the law «" + text + "»", x::undo, false);
        }
        x.mark(0, 3);
        wrongGround(x, "rain 5;", 7);
        wrongLaw(x, "admit;", 6);
        T.is("wrong texts leave them", () -> x.count(11), 1);
        for (int i = x.count(2); i < 12; i++) Checks.ground(x, "");
        x.mark(0, 4);
        T.is("a refused one", () -> Checks.ground(x, ""), FULL);
        T.is("leaves them", x::undo, true);
        x.mark(0, 5);
        x.back();
        T.is("behind going back", x::undo, false);
    }

    private static void undoLeaves() {
        holds(51, "all is as ahead of it (but for the TAPE, fault(), THE IMAGE;");
        VisitingHours x = some(1, 1);
        x.mark(0, 1);
        wrongLaw(x, "admit 5", 6);
        x.image();
        x.feed(1, 2, 3, 4, 5);
        x.end(11);
        x.seed(77);
        T.is("undone", x::undo, true);
        T.is("marks", () -> x.guest(0, 2), 0);
        T.is("fault", x::fault, 6);
        T.is("tape", () -> x.end(11), true);
        T.is("tape", () -> x.end(12), false);
        T.is("seed", () -> x.seed(5), 1);
        T.is("the image", x::back, true);
        T.is("is of the time behind it", () -> x.guest(0, 2), 1);
        T.is("its seed", () -> x.seed(5), 1);
    }

    private static void imageOne() {
        holds(52, "THE IMAGE is kept.");
        VisitingHours x = new VisitingHours();
        x.image();
        for (int i = 0; i < 2; i++) {
            Checks.ground(x, lines(HOST, 8));
            Checks.ground(x, lines(GUEST, 8));
            Checks.ground(x, "likes 7 00000000;loves 7 00000000;rain 5;week 5;needs a;bars b");
            Checks.law(x, "admit");
            x.book(0, 0, 0);
            x.weeks(60);
            T.is("the image of nothing", x::back, true);
            int[] due = {0, 0, 0, NONE, 0, 0, 0, 0, 0, 0, 0, 0};
            for (int what = 0; what < due.length; what++) T.due("count " + what, x.count(what), due[what]);
            T.is("seed", () -> x.seed(1), 1);
            T.is("the log", () -> x.log(0, 0), -2);
        }
        Checks.ground(x, lines(HOST, 8));
        Checks.ground(x, lines(GUEST, 8));
        T.is("ranks of those that come then", () -> 10 * x.rank(7, 7, true) + x.rank(7, 7, false), 55);
        T.is("nobody is booked", () -> x.booked(0, 0), NONE);
        x.mark(0, 1);
        T.is("it forgets no acts", () -> {
            x.image();
            return x.count(11);
        }, 1);
        x.mark(0, 2);
        T.is("the latest image", () -> x.back() && x.guest(0, 2) == 1, true);
    }

    private static void backNone() {
        holds(53, "One goes back to THE IMAGE: true; false, and nothing happens, if none was kept.");
        VisitingHours x = some(1, 1);
        x.book(0, 0, 0);
        T.is("none was kept", x::back, false);
        T.is("booked", () -> x.booked(0, 0), 0);
        T.is("acts", () -> x.count(11), 1);
        T.is("undo", x::undo, true);
        x.image();
        T.is("one was", x::back, true);
        T.is("it stays kept", x::back, true);
    }

    private static void backLeaves() {
        holds(53, "(but for the TAPE, fault() and THE IMAGE itself).");
        VisitingHours x = some(1, 1);
        x.image();
        x.mark(0, 7);
        wrongLaw(x, "admit 5", 6);
        x.feed(1, 2, 3, 4, 5);
        x.end(11);
        T.is("back", x::back, true);
        T.is("marks", () -> x.guest(0, 2), 0);
        T.is("fault", x::fault, 6);
        T.is("tape", () -> tapeLength(x), 11);
        x.mark(0, 8);
        T.is("back again", x::back, true);
        T.is("marks", () -> x.guest(0, 2), 0);
        T.is("a new object has none of another one", () -> new VisitingHours().back(), false);
    }
}
