/** Promises 1 to 3 and 6: a new object, the TAPE, and where a text was wrong. */
final class TapeBounds extends Bounds {
    static void all() {
        newObject();
        lastCall();
        feedOrder();
        feedFull();
        endTaken();
        endRefused();
        faultOfAny();
        faultAtTheEnds();
        faultOfTextsAlone();
    }

    private static void newObject() {
        holds(1, "A ground without HOSTS.");
        T.due("NONE", VisitingHours.NONE, -1);
        int[] due = {0, 0, 0, NONE, 0, 0, 0, 0, 0, 0, 0, 0};
        for (int what = 0; what < due.length; what++) T.due("count " + what, new VisitingHours().count(what), due[what]);
        T.is("host 0", () -> new VisitingHours().host(0, 0), INDEX);
        T.is("guest 0", () -> new VisitingHours().guest(0, 0), INDEX);
        T.is("undo", () -> new VisitingHours().undo(), false);
        T.is("back", () -> new VisitingHours().back(), false);
        T.is("the log", () -> new VisitingHours().log(0, 0), -2);
        T.is("the tape", () -> tapeLength(new VisitingHours()), 0);
        T.is("seed", () -> new VisitingHours().seed(7), 1);
    }

    private static void lastCall() {
        holds(1, "An object is used for at most 512 calls after it has been made; what later calls answer is free.");
        VisitingHours x = new VisitingHours();
        for (int i = 1; i <= 510; i++) x.gate(i % 64, 0);
        T.is("the 511th call", x::undo, true);
        T.is("the 512th call", () -> x.gate(0, 0), 64 * (509 % 64));
        VisitingHours y = new VisitingHours();
        for (int i = 1; i <= 255; i++) {
            y.law();
            y.image();
        }
        y.law();
        T.is("the 512th call", y::back, true);
    }

    private static void feedOrder() {
        holds(2, "Twenty bytes come behind the TAPE, of each number the highest first: how many it has");
        VisitingHours x = new VisitingHours();
        T.is("twenty", () -> x.feed(0x72616900, 0, 0, 0, 0), 20);
        x.end(3);
        T.is("behind three", () -> x.feed(0x6e203132, 0x203b2077, 0x65656b20, 0x20203334, 0x35202020), 23);
        T.is("a text", x::ground, 1);
        T.is("its rain", () -> x.count(5), 12);
        T.is("its week", () -> x.count(4), 345);
        VisitingHours y = some(5, 1);
        y.feed(-1, MIN, 0, 0, 0);
        y.end(5);
        T.is("a byte of 128 is no guest", y::rather, ARGUMENT);
        y.feed(-1, 0x00ffffff, 0, 0, 0);
        y.end(5);
        T.is("four bytes of 255, then one of 0", y::rather, 4);
        y.feed(-1, 0xff000000, 0, 0, 0);
        y.end(5);
        T.is("five bytes of 255", y::rather, 5);
    }

    private static void feedFull() {
        holds(2, "NONE, and none come, if it would have more than 400.");
        VisitingHours x = new VisitingHours();
        for (int i = 1; i < 20; i++) T.due("feed " + i, x.feed(0x20202020, 0x20202020, 0x20202020, 0x20202020, 0x20202020), 20 * i);
        T.is("up to 400", () -> x.feed(0x20202020, 0x20202020, 0x20202020, 0x20207261, 0x696e2036), 400);
        T.is("up to 420", () -> x.feed(0x35353535, 0, 0, 0, 0), NONE);
        T.is("it has no more", () -> x.end(401), false);
        T.is("nor is it another text", () -> x.ground() + x.count(5), 7);
        VisitingHours y = new VisitingHours();
        for (int i = 1; i <= 20; i++) y.feed(0, 0, 0, 0, 0);
        y.end(381);
        T.is("up to 401", () -> y.feed(0, 0, 0, 0, 0), NONE);
        T.is("none came", () -> y.end(382), false);
        T.is("it has what it had", () -> y.end(381), true);
        y.end(380);
        T.is("up to 400", () -> y.feed(0, 0, 0, 0, 0), 400);
        T.is("full", () -> y.feed(1, 1, 1, 1, 1), NONE);
        y.end(0);
        T.is("emptied", () -> y.feed(0, 0, 0, 0, 0), 20);
    }

    private static void endTaken() {
        holds(3, "The TAPE has its first n bytes alone: true");
        VisitingHours x = new VisitingHours();
        T.is("0 of none", () -> x.end(0), true);
        Checks.tell(x, "rain 55");
        T.is("6 of 7", () -> x.end(6), true);
        T.is("the first alone", () -> x.ground() + x.count(5), 6);
        Checks.tell(x, "rain 77");
        T.is("all", () -> x.end(7), true);
        T.is("they stay", () -> x.ground() + x.count(5), 79);
        Checks.tell(x, "rain");
        T.is("none", () -> x.end(0), true);
        T.is("an empty text", x::ground, 3);
    }

    private static void endRefused() {
        holds(3, "false, and nothing happens, if it has fewer, or n is below 0.");
        VisitingHours x = new VisitingHours();
        for (int n : new int[] {1, -1, 20, 400, MIN, MAX}) T.is(n + " of none", () -> x.end(n), false);
        Checks.tell(x, "rain 55");
        for (int n : new int[] {8, -1, 20, 400, MIN, MAX}) T.is(n + " of 7", () -> x.end(n), false);
        T.is("it has what it had", () -> x.ground() + x.count(5), 56);
        T.is("a used up one", () -> x.end(1), false);
    }

    private static void faultOfAny() {
        holds(6, "The first wrong byte of the latest text that was read; NONE without one, and ahead of any.");
        VisitingHours x = new VisitingHours();
        T.is("ahead of any", x::fault, NONE);
        x.law();
        T.is("an empty one", x::fault, NONE);
        wrongGround(x, "rain x y", 5);
        wrongLaw(x, "glad 5 5", 7);
        T.is("asked again", x::fault, 7);
        Checks.ground(x, "rain 5");
        T.is("a right one", x::fault, NONE);
        wrongGround(x, "x", 0);
        Checks.law(x, "admit");
        T.is("a right law", x::fault, NONE);
    }

    private static void faultAtTheEnds() {
        holds(6, "or the text's length, if more must come.");
        VisitingHours x = new VisitingHours();
        wrongGround(x, "#", 0);
        wrongLaw(x, "#", 0);
        wrongGround(x, " ".repeat(399) + "#", 399);
        wrongLaw(x, " ".repeat(399) + ";", 399);
        wrongGround(x, "rain" + " ".repeat(396), 400);
        wrongLaw(x, "glad" + " ".repeat(396), 400);
        wrongGround(x, " ".repeat(396) + "rain", 400);
        wrongLaw(x, " ".repeat(396) + "glad", 400);
        wrongGround(x, "rain 5;", 7);
        wrongLaw(x, "admit; ", 7);
    }

    private static void faultOfTextsAlone() {
        holds(6, "fault(), where a text is read (also by one that is refused)");
        VisitingHours x = new VisitingHours();
        for (int i = 0; i < 12; i++) Checks.ground(x, "");
        wrongGround(x, "rain 5;;", 7);
        T.is("a right text that is refused", () -> Checks.ground(x, "rain 5"), FULL);
        T.is("is read", x::fault, NONE);
        wrongLaw(x, "admit if", 8);
        int[] wrong = {64, 64};
        Checks.tell(x, wrong);
        T.is("rather", x::rather, ARGUMENT);
        Checks.tell(x, wrong);
        T.is("rules", () -> x.rules(true), ARGUMENT);
        Checks.tell(x, wrong);
        T.is("send", x::send, ARGUMENT);
        Checks.tell(x, wrong);
        T.is("hand", () -> x.hand(true), ARGUMENT);
        T.is("rows are no texts", x::fault, 8);
        x.rather();
        x.send();
        T.is("right rows neither", x::fault, 8);
    }
}
