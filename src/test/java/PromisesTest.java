import java.util.NoSuchElementException;

/** Promises 1 to 54, one function each: ordinary inputs, the edges that the document names, and wrong inputs. */
public final class PromisesTest {
    private static final Checks T = new Checks("PromisesTest");
    private static final Class<?> INDEX = IndexOutOfBoundsException.class;
    private static final Class<?> ARGUMENT = IllegalArgumentException.class;
    private static final Class<?> STATE = IllegalStateException.class;
    private static final Class<?> ELEMENT = NoSuchElementException.class;
    private static final Class<?> FULL = UnsupportedOperationException.class;
    private static final int NONE = VisitingHours.NONE;
    private static final String TWO_AND_THREE = "host patience 2 from 0 to 3;host patience 0 from 2 to 5;"
        + "guest stay 2 from 0 to 5 marks ab;guest stay 1 from 1 to 2;guest stay 2 from 3 to 7 marks c;"
        + "likes 0 529;likes 1 909;loves 0 39;loves 1 93;loves 2 45";

    public static void main(String[] args) {
        newObject();
        feedAndEnd();
        ground();
        groundFaults();
        law();
        lawFaults();
        fault();
        hostAndGuest();
        rankAndBooked();
        canLetsJoy();
        book();
        strike();
        change();
        markGateValue();
        weeks();
        rain();
        settling();
        meetings();
        twiceAndTaboo();
        best();
        ways();
        rather();
        row();
        afternoon();
        rules();
        send();
        hand();
        dry();
        saved();
        lend();
        odds();
        waits();
        treaty();
        rests();
        dearestForlornAlike();
        settleGladderAhead();
        trialAndSpan();
        ledAndLog();
        seed();
        undo();
        imageAndBack();
        count();
        refusedCallsChangeNothing();
        T.end();
    }

    private static VisitingHours two() {
        return Checks.with(TWO_AND_THREE);
    }

    private static String repeat(String s, int many, String between) {
        return String.join(between, java.util.Collections.nCopies(many, s));
    }

    private static void newObject() {
        T.about("promise 1");
        VisitingHours x = new VisitingHours();
        T.due("NONE", VisitingHours.NONE, -1);
        int[] first = {0, 0, 0, NONE, 0, 0, 0, 0, 0, 0, 0, 0};
        for (int i = 0; i < 12; i++) {
            int what = i;
            T.is("count " + what, () -> x.count(what), first[what]);
        }
        T.is("host", () -> x.host(0, 0), INDEX);
        T.is("guest", () -> x.guest(0, 0), INDEX);
        T.is("fault", x::fault, NONE);
        T.is("back", x::back, false);
        T.is("undo", x::undo, false);
        T.is("tape", () -> x.end(1), false);
    }

    private static void feedAndEnd() {
        T.about("promise 2");
        VisitingHours x = new VisitingHours();
        for (int i = 1; i <= 20; i++) T.due("feed " + i, x.feed(0x20202020, 0, 0, 0, 0), 20 * i);
        T.is("beyond 400", () -> x.feed(0, 0, 0, 0, 0), NONE);
        T.is("none came", () -> x.end(401), false);
        T.is("400", () -> x.end(400), true);
        T.is("381", () -> x.end(381), true);
        T.is("401", () -> x.feed(0, 0, 0, 0, 0), NONE);
        T.is("380", () -> x.end(380), true);
        T.is("up to 400", () -> x.feed(0, 0, 0, 0, 0), 400);
        VisitingHours y = new VisitingHours();
        y.feed(0x7261696e, 0x20323020, 0x20202020, 0x20202020, 0x2020203b);
        y.end(19);
        T.is("highest byte first", y::ground, 1);
        T.is("rain 20", () -> y.count(5), 20);
        y.feed(0, 0, 0, 0, 0xff01fe80);
        T.is("bytes above 127 are wrong", y::ground, ARGUMENT);
        T.is("the first", y::fault, 0);
        T.about("promise 3");
        x.end(0);
        T.is("of none", () -> x.end(0), true);
        T.is("of none, 1", () -> x.end(1), false);
        x.feed(1, 2, 3, 4, 5);
        T.is("below 0", () -> x.end(-1), false);
        T.is("below 0", () -> x.end(Integer.MIN_VALUE), false);
        T.is("more", () -> x.end(21), false);
        T.is("all", () -> x.end(20), true);
        T.is("some", () -> x.end(3), true);
        T.is("no more than these", () -> x.end(4), false);
        T.is("behind these", () -> x.feed(0, 0, 0, 0, 0), 23);
    }

    private static void ground() {
        T.about("promise 4");
        VisitingHours x = two();
        T.is("uses the tape up", () -> x.end(1), false);
        T.is("hosts", () -> x.count(0), 2);
        T.is("guests", () -> x.count(1), 3);
        T.is("patience", () -> x.host(0, 0), 2);
        T.is("hours", () -> x.host(0, 1), 15);
        T.is("hours", () -> x.host(1, 1), 60);
        T.is("stay", () -> x.guest(0, 0), 2);
        T.is("marks", () -> x.guest(0, 2), 3);
        T.is("no marks", () -> x.guest(1, 2), 0);
        T.is("likes", () -> x.rank(0, 2, true), 9);
        T.is("likes", () -> x.rank(1, 1, true), 0);
        T.is("loves", () -> x.rank(1, 0, false), 9);
        T.is("loves", () -> x.rank(1, 2, false), 5);
        T.is("one behind another", () -> Checks.ground(x, "host patience 009 from 7 to 7 ; guest stay 4 from 0 to 0 marks fedcba"), 2);
        T.is("hosts", () -> x.count(0), 3);
        T.is("5 at first, by", () -> x.rank(2, 3, true), 5);
        T.is("5 at first", () -> x.rank(2, 3, false), 5);
        T.is("5 at first, of those before", () -> x.rank(0, 3, true), 5);
        T.is("earlier ranks stay", () -> x.rank(0, 2, true), 9);
        T.is("hours 7 to 7", () -> x.host(2, 1), 128);
        T.is("marks", () -> x.guest(3, 2), 63);
        T.is("numbers", () -> Checks.ground(x, "rain 100;week 999;needs ab;bars fc;needs b"), 3);
        T.is("rain", () -> x.count(5), 100);
        T.is("week", () -> x.count(4), 999);
        T.is("needs, in place of those before", () -> x.count(6), 2);
        T.is("bars", () -> x.count(7), 36);
        T.is("blanks", () -> Checks.ground(x, "  rain0  ;week 7;host patience3from0to1  "), 4);
        T.is("rain", () -> x.count(5), 0);
        T.is("blanks alone", () -> Checks.ground(x, "   "), 5);
        T.is("empty", () -> Checks.ground(x, ""), 6);
        T.is("likes by then", () -> Checks.ground(x, "guest stay 1 from 0 to 7;likes 3 12345;host patience 0 from 0 to 0;loves 4 98765"), 7);
        T.is("likes by then", () -> x.rank(3, 4, true), 5);
        T.is("likes by then", () -> x.rank(3, 0, true), 1);
        T.is("loves by then", () -> x.rank(4, 4, false), 5);
        T.is("loves by then", () -> x.rank(0, 4, false), 9);
        VisitingHours y = Checks.with("host patience 0 from 0 to 0;likes 0;rain 3");
        T.is("no figures without guests", () -> y.count(5), 3);
        for (int i = 2; i <= 12; i++) Checks.ground(y, "week " + i);
        T.is("12 texts", () -> y.count(2), 12);
        T.is("a 13th", () -> Checks.ground(y, "week 13"), FULL);
        T.is("nothing of it", () -> y.count(4), 12);
        T.is("it was read", y::fault, NONE);
        T.is("the tape was used up", () -> y.end(1), false);
        T.is("a 13th, and wrong", () -> Checks.ground(y, "week x"), ARGUMENT);
        T.is("where", y::fault, 5);
        T.is("texts", () -> y.count(2), 12);
    }

    private static void wrongGround(String text, int at) {
        VisitingHours x = Checks.with("host patience 1 from 0 to 1;guest stay 1 from 0 to 1");
        T.is("«" + text + "»", () -> Checks.ground(x, text), ARGUMENT);
        T.is("fault of «" + text + "»", x::fault, at);
        T.is("nothing of «" + text + "» stays", () -> x.count(0) + 10 * x.count(1) + 100 * x.count(2) + 1000 * x.count(5), 111);
        T.is("the tape of «" + text + "»", () -> x.end(1), false);
    }

    private static void groundFaults() {
        T.about("promise 4");
        wrongGround("rain 5;", 7);
        wrongGround("rain 5;  ", 9);
        wrongGround(";rain 5", 0);
        wrongGround(" ; ", 1);
        wrongGround("rain 5 rain 6", 7);
        wrongGround("rain 5;rainy 6", 7);
        wrongGround("Rain 5", 0);
        wrongGround("rainz 5", 0);
        wrongGround("seek 5", 0);
        wrongGround("week 5;gain 5", 7);
        wrongGround("rain 101", 5);
        wrongGround("rain 0001", 5);
        wrongGround("rain -1", 5);
        wrongGround("rain", 4);
        wrongGround("rain  ", 6);
        wrongGround("week 1000", 5);
        wrongGround("week 5x", 6);
        wrongGround("host patience 10 from 0 to 1", 14);
        wrongGround("host patient 1 from 0 to 1", 5);
        wrongGround("host patience 1 from 8 to 8", 21);
        wrongGround("host patience 1 from 0 to 8", 26);
        wrongGround("host patience 1 from 3 to 2", 26);
        wrongGround("host patience 1 from 3 2", 23);
        wrongGround("host patience 1 to 3", 16);
        wrongGround("hostpatience 1 from 0 to 2", 0);
        wrongGround("guest stay 0 from 0 to 1", 11);
        wrongGround("guest stay 5 from 0 to 1", 11);
        wrongGround("guest stay 1 from 0 to 1 marks aba", 31);
        wrongGround("guest stay 1 from 0 to 1 marks ag", 31);
        wrongGround("guest stay 1 from 0 to 1 marks", 30);
        wrongGround("guest stay 1 from 0 to 1 marks;", 30);
        wrongGround("guest stay 1 from 0 to 1 markab", 25);
        wrongGround("host patience 1 from 0 to 1 marks a", 28);
        wrongGround("rain 9;likes 1 5", 13);
        wrongGround("likes 0 55", 8);
        wrongGround("likes 0", 7);
        wrongGround("likes 0 x", 8);
        wrongGround("likes 0 5 5", 10);
        wrongGround("loves 1 5", 6);
        wrongGround("loves 0 12", 8);
        wrongGround("needs abcdefa", 6);
        wrongGround("needs 1", 6);
        wrongGround("bars host", 5);
        wrongGround("bars", 4);
        wrongGround("rain 5(", 6);
        wrongGround("rain 5\u00e9", 6);
        wrongGround("rain\t5", 4);
        wrongGround(repeat("rain 5", 15, ";"), 98);
        wrongGround(repeat("rain 5", 14, ";") + ";", 98);
        wrongGround(repeat("rain 5", 14, ";") + "; x", 99);
        wrongGround("host 7 from", 5);
        VisitingHours x = new VisitingHours();
        T.is("14 lines", () -> Checks.ground(x, repeat("rain 5", 14, ";")), 1);
        Checks.ground(x, repeat("host patience 1 from 0 to 1", 8, ";"));
        T.is("a 9th host", () -> Checks.ground(x, "rain 7; host patience 1 from 0 to 1"), ARGUMENT);
        T.is("its first word", x::fault, 8);
        Checks.ground(x, repeat("guest stay 1 from 0 to 1", 8, ";"));
        T.is("a 9th guest", () -> Checks.ground(x, "guest stay 1 from 0 to 1"), ARGUMENT);
        T.is("its first word", x::fault, 0);
        T.is("rain", () -> x.count(5), 5);
        T.is("8 figures", () -> Checks.ground(x, "likes 7 01234567;loves 7 98765432"), 4);
        T.is("the last", () -> x.rank(7, 6, true), 6);
        T.is("the last", () -> x.rank(7, 7, false), 2);
        VisitingHours y = new VisitingHours();
        T.is("figures that are too many", () -> Checks.ground(y, "host patience 1 from 0 to 1;likes 0 5"), ARGUMENT);
        T.is("where", y::fault, 36);
        T.is("a number that tells none", () -> Checks.ground(y, "likes 0 5"), ARGUMENT);
        T.is("where", y::fault, 6);
    }

    private static void law() {
        T.about("promise 5");
        VisitingHours x = two();
        T.is("lines", () -> Checks.law(x, "glad 4 if rank>8;sour 99;admit"), 3);
        T.is("uses the tape up", () -> x.end(1), false);
        T.is("count", () -> x.count(3), 3);
        T.is("in place of the one before", () -> Checks.law(x, "glad 2"), 1);
        T.is("count", () -> x.count(3), 1);
        T.is("joy", () -> x.joy(0, 0, 0), 7);
        T.is("wrong", () -> Checks.law(x, "glad 3;glad"), ARGUMENT);
        T.is("the tape was used up", () -> x.end(1), false);
        T.is("the one before stays", () -> x.joy(0, 0, 0), 7);
        T.is("a 0 and a 99", () -> Checks.law(x, "glad 0;glad 99"), 2);
        T.is("joy", () -> x.joy(0, 0, 0), 104);
        T.is("the longest text", () -> Checks.law(x, "glad 1 if 1<" + repeat("1", 194, "+")), 1);
        T.is("12 lines", () -> Checks.law(x, repeat("glad 1", 12, " ; ")), 12);
        T.is("joy", () -> x.joy(0, 0, 0), 17);
        T.is("empty", () -> Checks.law(x, ""), 0);
        T.is("joy", () -> x.joy(0, 0, 0), 5);
        T.is("blanks alone", () -> Checks.law(x, "  "), 0);
        T.is("0 lines", () -> x.count(3), 0);
        int[][] due = {{1, 0, 0}, {0, 0, 5}, {0, 2, 3}, {1, 2, 4}};
        Object[][] laws = {
            {"host>0", 1, 0, 0, 1}, {"guest<2", 1, 1, 0, 0}, {"quarter>3", 0, 1, 0, 1}, {"lonely<1", 1, 1, 1, 1},
            {"rank>5", 1, 0, 1, 1}, {"loved<5", 0, 1, 1, 0}, {"week>5+1", 1, 1, 1, 1}, {"week<7", 0, 0, 0, 0}, {"marked", 1, 1, 0, 0},
            {"not marked", 0, 0, 1, 1}, {"expected", 0, 0, 1, 0}, {"rank+loved>12+1", 1, 0, 0, 1}, {"13<rank+loved", 1, 0, 0, 1},
            {"host+guest+quarter>5", 0, 0, 0, 1}, {"marked or quarter>3 and rank>8", 1, 1, 0, 1}, {"(marked or quarter>3) and rank>8", 1, 0, 0, 1},
            {"not (marked or quarter>3)", 0, 0, 1, 0}, {"not marked or quarter>3", 0, 1, 1, 1}, {"not not marked", 1, 1, 0, 0},
            {"guest<1 or expected or host>0 and host>1", 1, 1, 1, 0}, {"not rank>5 and quarter>3", 0, 1, 0, 0}, {"rank<9", 0, 1, 0, 0},
            {"5<6", 1, 1, 1, 1}, {"5>5", 0, 0, 0, 0}, {"5<5", 0, 0, 0, 0}, {"999>998+0", 1, 1, 1, 1},
            {"not 5<6", 0, 0, 0, 0}, {"not 6>5 or not expected", 1, 1, 0, 1}, {"not 0>5", 1, 1, 1, 1}};
        VisitingHours y = two();
        Checks.ground(y, "week 7;needs a");
        y.book(0, 2, 3);
        for (Object[] l : laws) {
            Checks.law(y, "glad 20 if " + l[0]);
            for (int i = 0; i < 4; i++) {
                int[] d = due[i];
                T.is(l[0] + " of " + d[0] + d[1] + d[2], () -> y.joy(d[0], d[1], d[2]) - y.rank(d[0], d[1], true), 20 * (int) l[i + 1]);
            }
        }
    }

    private static void wrongLaw(String text, int at) {
        VisitingHours x = Checks.with("host patience 1 from 0 to 1", "glad 1;glad 2");
        T.is("«" + text + "»", () -> Checks.law(x, text), ARGUMENT);
        T.is("fault of «" + text + "»", x::fault, at);
        T.is("the law before «" + text + "»", () -> x.count(3), 2);
    }

    private static void lawFaults() {
        T.about("promise 5");
        wrongLaw("glad 100", 5);
        wrongLaw("glad", 4);
        wrongLaw("glad if marked", 5);
        wrongLaw("sour 5 marked", 7);
        wrongLaw("admit 1", 6);
        wrongLaw("admits", 0);
        wrongLaw("host patience", 0);
        wrongLaw("admit if", 8);
        wrongLaw("admit;", 6);
        wrongLaw("admit if;", 8);
        wrongLaw("admit if marked<2", 15);
        wrongLaw("admit if rank", 13);
        wrongLaw("admit if rank<", 14);
        wrongLaw("admit if rank<1000", 14);
        wrongLaw("admit if rank<3<4", 15);
        wrongLaw("admit if rank<3+", 16);
        wrongLaw("admit if rank+marked<3", 14);
        wrongLaw("admit if rank marked", 14);
        wrongLaw("admit if rank<expected", 14);
        wrongLaw("admit if (marked", 16);
        wrongLaw("admit if (marked;", 16);
        wrongLaw("admit if marked)", 15);
        wrongLaw("admit if ()", 10);
        wrongLaw("admit if (rank)<3", 14);
        wrongLaw("admit if marked and", 19);
        wrongLaw("admit if marked or or marked", 19);
        wrongLaw("admit if not", 12);
        wrongLaw("admit if and", 9);
        wrongLaw("admit if rank = 3", 14);
        wrongLaw("admit if glad", 9);
        wrongLaw("admit if not not not not not not not expected", 33);
        wrongLaw("admit if (((((((marked)))))))", 15);
        wrongLaw("admit if not(not(not(not marked", 21);
        wrongLaw(repeat("admit", 13, ";"), 72);
        wrongLaw(repeat("admit", 12, ";") + ";", 72);
        VisitingHours x = two();
        T.is("6 deep", () -> Checks.law(x, "admit if ((((((marked))))))"), 1);
        T.is("6 deep", () -> Checks.law(x, "admit if not not not not not not rank>3 and not not not not not not marked"), 1);
        T.is("6 deep", () -> Checks.law(x, "admit if not(not(not(marked))) or (not(not((((marked and rank < 3))))))"), ARGUMENT);
        T.is("the 7th", x::fault, 44);
        T.is("it is 6 deep again and again", () -> Checks.law(x, "admit if ((((((marked)))))) and ((((((marked))))));glad 1 if ((((((expected))))))"), 2);
        T.is("parts of signs alone", () -> Checks.law(x, "admit if(rank+loved>quarter+1)and not(marked)or 3<4"), 1);
    }

    private static void fault() {
        T.about("promise 6");
        VisitingHours x = new VisitingHours();
        T.is("ahead of any", x::fault, NONE);
        T.is("wrong", () -> Checks.ground(x, "rain x"), ARGUMENT);
        T.is("where", x::fault, 5);
        Checks.law(x, "admit");
        T.is("none", x::fault, NONE);
        T.is("wrong", () -> Checks.law(x, "admit 5"), ARGUMENT);
        T.is("where", x::fault, 6);
        x.image();
        x.back();
        T.is("going back leaves it", x::fault, 6);
        x.gate(1, 1);
        x.undo();
        T.is("undo leaves it", x::fault, 6);
        Checks.tell(x, 0);
        T.is("no text", x::send, ARGUMENT);
        T.is("no text was read", x::fault, 6);
        Checks.ground(x, "");
        T.is("none", x::fault, NONE);
    }

    private static void hostAndGuest() {
        T.about("promise 7");
        VisitingHours x = two();
        x.book(0, 2, 3);
        x.book(0, 0, 1);
        x.book(1, 0, 3);
        x.weeks(1);
        int[] due = {2, 15, 14, 0, 5, 5, 60};
        for (int i = 0; i < due.length; i++) {
            int what = i;
            T.is("what " + what, () -> x.host(0, what), due[what]);
        }
        T.is("share, rounded down", () -> x.host(1, 6), 39);
        T.is("free", () -> x.host(1, 4), 52);
        x.book(0, 0, 0);
        T.is("free", () -> x.host(0, 4), 4);
        T.is("booked in all", () -> x.count(8), 4);
        x.strike(0, 0);
        T.is("sees", () -> x.host(1, 5), 1);
        T.is("another what", () -> x.host(0, 7), ELEMENT);
        T.is("another what", () -> x.host(0, -1), ELEMENT);
        T.is("no host", () -> x.host(2, 7), INDEX);
        T.is("no host", () -> x.host(-1, 0), INDEX);
        VisitingHours y = two();
        T.is("share of none", () -> y.host(0, 6), 0);
        y.weeks(1);
        T.is("lonely", () -> y.host(0, 3), 1);
        T.about("promise 8");
        int[] of = {2, 63, 3, 10, 14, 1};
        for (int i = 0; i < of.length; i++) {
            int what = i;
            T.is("what " + what, () -> x.guest(0, what), of[what]);
        }
        x.gate(1, 0);
        T.is("passes", () -> x.guest(0, 5), 1);
        T.is("lacks one", () -> x.guest(2, 5), 0);
        x.gate(1, 2);
        T.is("has one that must not be", () -> x.guest(0, 5), 0);
        x.gate(0, 4);
        T.is("has one that must not be", () -> x.guest(2, 5), 0);
        T.is("passes", () -> x.guest(1, 5), 1);
        T.is("another what", () -> x.guest(0, 6), ELEMENT);
        T.is("another what", () -> x.guest(0, -1), ELEMENT);
        T.is("no guest", () -> x.guest(3, 0), INDEX);
        T.is("no guest", () -> x.guest(-1, 9), INDEX);
    }

    private static void rankAndBooked() {
        T.about("promise 9");
        VisitingHours x = two();
        T.is("by the host", () -> x.rank(0, 1, true), 2);
        T.is("by the guest", () -> x.rank(0, 1, false), 9);
        T.is("no host", () -> x.rank(2, 0, true), INDEX);
        T.is("no host", () -> x.rank(-1, 0, true), INDEX);
        T.is("no guest", () -> x.rank(0, 3, false), INDEX);
        T.is("no guest", () -> x.rank(0, -1, true), INDEX);
        T.about("promise 10");
        T.is("nobody", () -> x.booked(0, 3), NONE);
        x.book(0, 2, 3);
        T.is("who", () -> x.booked(0, 3), 2);
        T.is("another host", () -> x.booked(1, 3), NONE);
        T.is("no host", () -> x.booked(2, 3), INDEX);
        T.is("no quarter", () -> x.booked(0, 8), INDEX);
        T.is("no quarter", () -> x.booked(0, -1), INDEX);
    }

    private static void canLetsJoy() {
        T.about("promise 11");
        VisitingHours x = two();
        T.is("can", () -> x.can(0, 2, 3), true);
        T.is("not its hours", () -> x.can(0, 2, 4), false);
        T.is("not the guest's hours", () -> x.can(0, 2, 2), false);
        T.is("never with it", () -> x.can(1, 1, 2), false);
        x.value(0, 2, false, 0);
        T.is("never to it", () -> x.can(0, 2, 3), false);
        T.is("no host", () -> x.can(2, 0, 0), INDEX);
        T.is("no guest", () -> x.can(0, 3, 0), INDEX);
        T.is("no quarter", () -> x.can(0, 0, 8), INDEX);
        T.is("no quarter", () -> x.can(0, 0, -1), INDEX);
        T.about("promise 12");
        VisitingHours y = two();
        y.gate(1, 0);
        T.is("marked", () -> y.lets(0, 0, 7), true);
        T.is("not marked", () -> y.lets(0, 1, 1), false);
        Checks.law(y, "glad 5");
        T.is("without admit lines", () -> y.lets(0, 0, 0), true);
        T.is("without admit lines", () -> y.lets(0, 1, 0), false);
        Checks.law(y, "admit if quarter>6;admit if host>0 and guest>1;sour 9 if marked");
        T.is("no line holds", () -> y.lets(0, 0, 6), false);
        T.is("the first holds", () -> y.lets(0, 0, 7), true);
        T.is("the second holds", () -> y.lets(1, 2, 0), true);
        T.is("no line holds", () -> y.lets(0, 2, 0), false);
        Checks.law(y, "admit");
        T.is("a line without if", () -> y.lets(0, 1, 1), true);
        T.is("no host", () -> y.lets(2, 0, 0), INDEX);
        T.is("no guest", () -> y.lets(0, 3, 0), INDEX);
        T.is("no quarter", () -> y.lets(0, 0, 8), INDEX);
        T.about("promise 13");
        T.is("the rank by the host", () -> y.joy(0, 1, 0), 2);
        Checks.law(y, "glad 4 if quarter>3;glad 2;sour 3 if guest>0;admit if quarter>9");
        T.is("glad", () -> y.joy(0, 0, 4), 11);
        T.is("glad", () -> y.joy(0, 0, 3), 7);
        T.is("sour", () -> y.joy(0, 1, 3), 1);
        Checks.law(y, "glad 1;sour 99");
        T.is("0 at least", () -> y.joy(0, 0, 0), 0);
        T.is("no host", () -> y.joy(-1, 0, 0), INDEX);
        T.is("no guest", () -> y.joy(0, 3, 0), INDEX);
        T.is("no quarter", () -> y.joy(0, 0, 8), INDEX);
    }

    private static void book() {
        T.about("promise 14");
        VisitingHours x = two();
        T.is("nobody was", () -> x.book(0, 0, 1), NONE);
        T.is("in place of another one", () -> x.book(0, 1, 1), 0);
        T.is("who is", () -> x.booked(0, 1), 1);
        T.is("the other one is no more", () -> x.guest(0, 3), 0);
        T.is("booked with this one, too", () -> x.book(0, 1, 1), STATE);
        T.is("it cannot", () -> x.book(0, 2, 2), STATE);
        T.is("never", () -> x.book(1, 1, 2), STATE);
        x.book(0, 0, 3);
        T.is("booked with another one", () -> x.book(1, 0, 3), STATE);
        T.is("in another quarter", () -> x.book(1, 0, 4), NONE);
        T.is("refused ones are no acts", () -> x.count(11), 4);
        T.is("no host", () -> x.book(2, 0, 1), INDEX);
        T.is("no guest", () -> x.book(0, 3, 1), INDEX);
        T.is("no quarter", () -> x.book(0, 0, 8), INDEX);
        Checks.law(x, "admit if 1>2");
        T.is("let in or not", () -> x.book(0, 0, 2), NONE);
        T.is("an act", () -> x.undo() && x.booked(0, 2) == NONE, true);
    }

    private static void strike() {
        T.about("promise 15");
        VisitingHours x = two();
        x.book(0, 0, 1);
        T.is("nobody was", () -> x.strike(0, 2), STATE);
        T.is("who was", () -> x.strike(0, 1), 0);
        T.is("nobody is", () -> x.booked(0, 1), NONE);
        T.is("nobody was", () -> x.strike(0, 1), STATE);
        T.is("acts", () -> x.count(11), 2);
        T.is("an act", () -> x.undo() && x.booked(0, 1) == 0, true);
        T.is("no host", () -> x.strike(2, 1), INDEX);
        T.is("no quarter", () -> x.strike(0, 8), INDEX);
        T.is("no quarter", () -> x.strike(0, -1), INDEX);
    }

    private static void change() {
        T.about("promise 16");
        VisitingHours x = two();
        x.book(0, 2, 3);
        T.is("nobody comes", () -> x.change(0, 1, 3), NONE);
        T.is("who went", () -> x.booked(1, 3), 2);
        x.book(0, 0, 3);
        T.is("who comes", () -> x.change(0, 1, 3), 2);
        T.is("who went", () -> x.booked(1, 3), 0);
        T.is("who came", () -> x.booked(0, 3), 2);
        T.is("nobody at all", () -> x.change(0, 1, 7), NONE);
        T.is("acts", () -> x.count(11), 5);
        T.is("both are one", () -> x.change(1, 1, 3), ARGUMENT);
        T.is("both are one, and no quarter", () -> x.change(1, 1, 8), INDEX);
        T.is("no host", () -> x.change(2, 2, 3), INDEX);
        T.is("no other", () -> x.change(0, 2, 3), INDEX);
        T.is("no first one", () -> x.change(2, 0, 3), INDEX);
        T.is("no quarter", () -> x.change(0, 1, -1), INDEX);
        x.book(0, 1, 2);
        x.change(0, 1, 2);
        T.is("one who cannot may come", () -> x.booked(1, 2), 1);
        T.is("an act", () -> x.undo() && x.booked(0, 2) == 1 && x.booked(1, 2) == NONE, true);
    }

    private static void markGateValue() {
        T.about("promise 17");
        VisitingHours x = two();
        T.is("what they were", () -> x.mark(0, 63), 3);
        T.is("what they were", () -> x.mark(0, 0), 63);
        T.is("what they are", () -> x.guest(0, 2), 0);
        T.is("64", () -> x.mark(0, 64), ARGUMENT);
        T.is("below 0", () -> x.mark(0, -1), ARGUMENT);
        T.is("no guest", () -> x.mark(3, 64), INDEX);
        T.is("acts", () -> x.count(11), 2);
        T.is("an act", () -> x.undo() && x.guest(0, 2) == 63, true);
        T.about("promise 18");
        T.is("none of both at first", () -> x.gate(3, 5), 0);
        T.is("what they were", () -> x.gate(63, 63), 197);
        T.is("what they were", () -> x.gate(0, 1), 64 * 63 + 63);
        T.is("64", () -> x.gate(64, 0), ARGUMENT);
        T.is("64", () -> x.gate(0, 64), ARGUMENT);
        T.is("below 0", () -> x.gate(-1, 0), ARGUMENT);
        T.is("below 0", () -> x.gate(0, -1), ARGUMENT);
        T.is("those stay", () -> x.count(6) * 64 + x.count(7), 1);
        T.is("an act", () -> x.undo() && x.count(6) == 63, true);
        T.about("promise 19");
        T.is("by the host", () -> x.value(0, 2, true, 1), 9);
        T.is("by the host", () -> x.rank(0, 2, true), 1);
        T.is("by the guest", () -> x.value(1, 0, false, 0), 9);
        T.is("by the guest", () -> x.rank(1, 0, false), 0);
        T.is("by the host still", () -> x.rank(1, 0, true), 9);
        T.is("9", () -> x.value(0, 0, true, 9), 5);
        T.is("10", () -> x.value(0, 0, true, 10), ARGUMENT);
        T.is("below 0", () -> x.value(0, 0, true, -1), ARGUMENT);
        T.is("no host", () -> x.value(2, 0, true, 10), INDEX);
        T.is("no guest", () -> x.value(0, 3, true, 10), INDEX);
        T.is("an act", () -> x.undo() && x.rank(0, 0, true) == 5, true);
    }

    private static void weeks() {
        T.about("promise 20");
        VisitingHours x = two();
        x.book(0, 2, 3);
        x.book(1, 0, 3);
        x.book(0, 1, 2);
        x.book(0, 0, 1);
        T.is("how many met", () -> x.weeks(1), 4);
        T.is("gladness", () -> x.host(0, 2), 16);
        T.is("gladness", () -> x.host(1, 2), 9);
        T.is("week", () -> x.count(4), 1);
        T.is("how many met", () -> x.weeks(60), 240);
        T.is("999 at most", () -> x.host(0, 2), 976);
        x.weeks(2);
        T.is("999 at most", () -> x.host(0, 2), 999);
        T.is("joy of the log is whole", () -> x.log(0, 5), 9);
        T.is("one act", () -> x.count(11), 7);
        T.is("one act", () -> x.undo() && x.count(4) == 61, true);
        T.is("0", () -> x.weeks(0), ARGUMENT);
        T.is("61", () -> x.weeks(61), ARGUMENT);
        T.is("below 0", () -> x.weeks(-1), ARGUMENT);
        VisitingHours y = Checks.with("week 999");
        for (int i = 0; i < 150; i++) y.weeks(60);
        T.is("week", () -> y.count(4), 9999);
        y.weeks(1);
        T.is("9999 at most", () -> y.count(4), 9999);
        VisitingHours z = Checks.with("host patience 9 from 0 to 7;guest stay 1 from 0 to 7", "glad 10 if lonely>0;glad 1 if week>1");
        z.weeks(2);
        z.book(0, 0, 0);
        z.book(0, 0, 5);
        z.weeks(1);
        T.is("all as it is ahead of the week", () -> z.host(0, 2), 32);
        z.weeks(1);
        T.is("lonely no more", () -> z.host(0, 2), 44);
    }

    private static void rain() {
        T.about("promise 20");
        VisitingHours x = Checks.with("host patience 9 from 0 to 7;guest stay 1 from 0 to 7;rain 50");
        for (int q = 0; q < 8; q++) x.book(0, 0, q);
        int seed = 1;
        int met = 0;
        StringBuilder dry = new StringBuilder();
        for (int q = 0; q < 8; q++) {
            seed = 1103515245 * seed + 12345;
            if ((seed >> 16 & 32767) % 100 >= 50) {
                met++;
                dry.insert(0, q);
            }
        }
        T.is("dry quarters", () -> x.weeks(1), met);
        StringBuilder logged = new StringBuilder();
        for (int i = 0; i < met; i++) logged.append(x.log(i, 3));
        T.due("which", logged.toString(), dry.toString());
        T.is("draws", () -> x.seed(1), seed);
        Checks.ground(x, "rain 100");
        T.is("all wet", () -> x.weeks(1), 0);
        T.is("it draws all the same", () -> x.seed(7), seed);
        Checks.ground(x, "rain 0");
        T.is("all dry", () -> x.weeks(1), 8);
        T.is("it draws all the same", () -> x.seed(7) == 7, false);
    }

    private static void settling() {
        T.about("promise 20");
        VisitingHours x = Checks.with("host patience 1 from 0 to 7;host patience 2 from 0 to 7;guest stay 1 from 0 to 7;needs a");
        x.book(0, 0, 3);
        x.book(1, 0, 4);
        x.weeks(1);
        T.is("lonely", () -> x.host(0, 3), 1);
        T.is("it waits", () -> x.count(8), 2);
        T.is("no rows", () -> x.count(10), 0);
        x.weeks(1);
        T.is("above its patience", () -> x.booked(0, 3), NONE);
        T.is("and lonely no more", () -> x.host(0, 3), 0);
        T.is("the other one waits", () -> x.host(1, 3), 2);
        T.is("what is struck", () -> x.booked(1, 4), 0);
        int[] row = {1, 0, NONE, NONE, 1, 0};
        for (int i = 0; i < 6; i++) {
            int what = i;
            T.is("its row, " + what, () -> x.log(0, what), row[what]);
        }
        x.gate(0, 0);
        T.is("it meets somebody", () -> x.weeks(1), 1);
        T.is("lonely no more", () -> x.host(1, 3), 0);
        x.weeks(1);
        T.is("one with nobody booked settles, too", () -> x.log(1, 4) == 0 && x.log(0, 4) == 1 && x.log(0, 0) == 3, true);
        VisitingHours z = Checks.with("host patience 0 from 0 to 7;host patience 9 from 0 to 7;guest stay 1 from 0 to 7;guest stay 1 from 0 to 7;needs a");
        for (int q = 0; q < 8; q++) {
            z.book(0, q % 2, q);
            z.book(1, 1 - q % 2, q);
        }
        z.weeks(1);
        T.is("all that is booked with it, and with no other one", () -> z.host(0, 4) + z.host(1, 4), 255);
        VisitingHours y = Checks.with("host patience 0 from 0 to 7;guest stay 1 from 0 to 7");
        y.book(0, 0, 3);
        y.weeks(3);
        T.is("patience 0", () -> y.booked(0, 3), 0);
        y.value(0, 0, true, 0);
        y.weeks(1);
        T.is("one that cannot does not meet", () -> y.booked(0, 3), NONE);
    }

    private static void meetings() {
        T.about("promise 21");
        VisitingHours x = two();
        T.is("none", () -> x.meetings(false), 0);
        T.is("none", () -> x.meetings(true), 0);
        x.book(0, 2, 3);
        x.book(1, 0, 3);
        x.book(0, 1, 2);
        T.is("how many", () -> x.meetings(false), 3);
        T.is("how glad", () -> x.meetings(true), 20);
        Checks.ground(x, "rain 100");
        T.is("without rain", () -> x.meetings(false), 3);
        x.gate(1, 0);
        T.is("let in", () -> x.meetings(true), 9);
        x.gate(0, 0);
        x.value(0, 2, false, 0);
        T.is("can", () -> x.meetings(true), 11);
        Checks.law(x, "glad 5 if expected;sour 9 if guest<1");
        T.is("by the law", () -> x.meetings(true), 12);
        VisitingHours y = Checks.with("host patience 0 from 0 to 7;guest stay 1 from 0 to 7", repeat("glad 99", 12, ";"));
        y.book(0, 0, 0);
        T.is("beyond 999", () -> y.meetings(true), 1193);
        y.weeks(1);
        T.is("beyond 999 in the log", () -> y.log(0, 5), 1193);
        T.is("gladness 999", () -> y.host(0, 2), 999);
    }

    private static void twiceAndTaboo() {
        T.about("promise 22");
        VisitingHours x = Checks.with(repeat("host patience 1 from 0 to 7", 3, ";") + ";" + repeat("guest stay 1 from 0 to 7", 4, ";"));
        T.is("none", x::twice, 0);
        x.book(0, 3, 0);
        x.book(0, 3, 1);
        x.book(1, 1, 0);
        x.book(1, 0, 7);
        T.is("with one host", x::twice, 0);
        x.strike(1, 7);
        x.book(2, 3, 2);
        T.is("with two", x::twice, 8);
        x.book(1, 3, 4);
        x.book(2, 1, 5);
        T.is("with three, and another one", x::twice, 10);
        T.about("promise 23");
        T.is("none", x::taboo, 0);
        x.gate(1, 0);
        T.is("not let in", x::taboo, 6);
        x.mark(3, 1);
        T.is("not let in", x::taboo, 2);
        x.value(0, 3, true, 0);
        T.is("cannot", x::taboo, 4);
        VisitingHours y = two();
        y.book(0, 1, 2);
        y.change(0, 1, 2);
        T.is("cannot by a change", y::taboo, 1);
    }

    private static void best() {
        VisitingHours x = Checks.with("host patience 9 from 0 to 0;host patience 9 from 0 to 0;guest stay 1 from 0 to 0;guest stay 1 from 0 to 0;"
            + "likes 0 95;likes 1 59;loves 0 59;loves 1 95");
        T.about("promise 24");
        T.is("host 0", () -> x.hostBest(0), 0);
        T.is("host 1", () -> x.hostBest(1), 1);
        T.is("no host", () -> x.hostBest(2), INDEX);
        T.is("no host", () -> x.hostBest(-1), INDEX);
        VisitingHours y = two();
        T.is("by ranks", () -> y.hostBest(0), 2);
        T.is("by ranks", () -> y.hostBest(1), 0);
        VisitingHours z = Checks.with(repeat("host patience 1 from 0 to 0", 3, ";") + ";" + repeat("guest stay 1 from 7 to 7", 2, ";"));
        T.is("like ranks: the lesser number, hours not looked at", () -> z.hostBest(0), 0);
        T.is("like ranks: the lesser number", () -> z.hostBest(1), 1);
        T.is("none", () -> z.hostBest(2), NONE);
        Checks.ground(z, "likes 0 00;loves 0 505");
        T.is("never", () -> z.hostBest(0), NONE);
        T.is("the guest never", () -> z.hostBest(1), 1);
        T.is("the one that is left", () -> z.hostBest(2), 0);
        VisitingHours c = Checks.with(repeat("host patience 1 from 0 to 0", 4, ";") + ";" + repeat("guest stay 1 from 0 to 0", 4, ";"));
        Checks.ground(c, "likes 0 9876;likes 1 9867;likes 2 9768;likes 3 9000;loves 0 1234;loves 1 2134;loves 2 1111;loves 3 1199");
        T.about("promise 25");
        T.is("the first call of an object", () -> c.guestBest(3), 0);
        T.about("promise 24");
        T.is("one sent away goes to the next", () -> c.hostBest(0), 1);
        T.is("one sent away goes to the next", () -> c.hostBest(1), 2);
        T.is("one sent away goes to the next", () -> c.hostBest(2), 3);
        T.is("the one that is loved the most", () -> c.hostBest(3), 0);
        T.about("promise 25");
        T.is("host 0", () -> x.guestBest(0), 1);
        T.is("host 1", () -> x.guestBest(1), 0);
        T.is("no host", () -> x.guestBest(2), INDEX);
        T.is("no host", () -> x.guestBest(-1), INDEX);
        T.is("never", () -> z.guestBest(0), NONE);
        T.is("the guest never", () -> z.guestBest(1), 1);
        T.is("the one that is left", () -> z.guestBest(2), 0);
    }

    private static void ways() {
        T.about("promise 26");
        T.is("of none", () -> new VisitingHours().ways(), 1);
        T.is("one", () -> two().ways(), 1);
        VisitingHours x = Checks.with("host patience 9 from 0 to 0;host patience 9 from 0 to 0;guest stay 1 from 0 to 0;guest stay 1 from 0 to 0;"
            + "likes 0 95;likes 1 59;loves 0 59;loves 1 95");
        T.is("two", x::ways, 2);
        VisitingHours z = Checks.with(repeat("host patience 1 from 0 to 0", 8, ";") + ";rain 3");
        Checks.ground(z, repeat("guest stay 1 from 0 to 0", 8, ";"));
        Checks.ground(z, "likes 0 98111111;likes 1 89111111;likes 2 11981111;likes 3 11891111;likes 4 11119811;likes 5 11118911;likes 6 11111198;likes 7 11111189");
        Checks.ground(z, "loves 0 89111111;loves 1 98111111;loves 2 11891111;loves 3 11981111;loves 4 11118911;loves 5 11119811;loves 6 11111189;loves 7 11111198");
        T.is("four pairs of two", z::ways, 16);
        T.is("the hosts' best", () -> z.hostBest(6), 6);
        T.is("the guests' best", () -> z.guestBest(6), 7);
        VisitingHours c = Checks.with(repeat("host patience 1 from 0 to 0", 3, ";") + ";" + repeat("guest stay 1 from 0 to 0", 3, ";")
            + ";likes 0 987;likes 1 798;likes 2 879;loves 0 798;loves 1 879;loves 2 987");
        T.is("a ring of three", c::ways, 3);
    }

    private static void rather() {
        T.about("promise 27");
        VisitingHours x = two();
        int[][] rows = {{0, 2, 1}, {2, 0, 0}, {255, 255, 5}, {0, 0, NONE}, {0, 1, NONE}, {255, 1, NONE}, {1, 255, 4}, {255, 0, 2}};
        for (int[] r : rows) {
            Checks.tell(x, r[0], r[1]);
            T.is("row " + r[0] + " " + r[1], x::rather, r[2]);
        }
        T.is("the tape is used up", () -> x.end(1), false);
        Checks.tell(x, 3, 255);
        T.is("no guest", x::rather, ARGUMENT);
        T.is("the tape is used up", () -> x.end(1), false);
        Checks.tell(x, 254, 255);
        T.is("no guest", x::rather, ARGUMENT);
        Checks.tell(x, 0);
        T.is("too few", x::rather, ARGUMENT);
        Checks.tell(x, 0, 1, 2);
        T.is("too many", x::rather, ARGUMENT);
        Checks.tell(x);
        T.is("none for two", x::rather, ARGUMENT);
        T.is("none for none", () -> new VisitingHours().rather(), 0);
        Checks.tell(x, 0, 0, 0);
        T.is("too many, one twice", x::rather, ARGUMENT);
        x.value(0, 0, false, 0);
        Checks.tell(x, 0, 255);
        T.is("a rank by the guest is 0", x::rather, NONE);
    }

    private static void row() {
        T.about("promise 28");
        VisitingHours x = two();
        T.is("how many", () -> x.row(0, 7, false), 2);
        T.is("which, the least", () -> x.row(0, 7, true), 3);
        T.is("which", () -> x.row(1, 7, true), 5);
        T.is("never", () -> x.row(1, 2, false), 0);
        T.is("its stay is too long", () -> x.row(0, 4, true), 0);
        T.is("bits of none count for nothing", () -> x.row(0, -1, true), 3);
        T.is("bits of none count for nothing", () -> x.row(0, 8 + 256, false), 0);
        T.is("none told", () -> x.row(0, 0, true), 0);
        x.book(0, 0, 0);
        x.book(0, 0, 1);
        T.is("what is booked is not looked at", () -> x.row(0, 7, true), 3);
        T.is("no host", () -> x.row(2, 7, true), INDEX);
        T.is("no host", () -> x.row(-1, 7, true), INDEX);
        VisitingHours y = Checks.with("host patience 0 from 0 to 7;guest stay 4 from 0 to 7;guest stay 1 from 3 to 4;guest stay 3 from 0 to 2;guest stay 4 from 4 to 7;guest stay 1 from 3 to 3");
        T.is("one behind another", () -> y.row(0, 31, false), 3);
        T.is("the least of several", () -> y.row(0, 31, true), 7);
        T.is("two", () -> y.row(0, 9, true), 9);
        T.is("one place for two", () -> y.row(0, 26, true), 10);
        VisitingHours z = Checks.with("host patience 0 from 0 to 7;" + repeat("guest stay 1 from 0 to 7", 8, ";"));
        T.is("all", () -> z.row(0, 255, true), 255);
        T.is("all", () -> z.row(0, 255, false), 8);
        z.value(0, 3, false, 0);
        T.is("all but one that never comes", () -> z.row(0, 255, true), 247);
    }

    private static void afternoon() {
        T.about("promise 29");
        VisitingHours x = two();
        T.is("how many", () -> x.afternoon(2, NONE), 2);
        T.is("host 0", () -> x.afternoon(2, 0), 1);
        T.is("host 1", () -> x.afternoon(2, 1), 0);
        T.is("one", () -> x.afternoon(0, NONE), 1);
        T.is("who", () -> x.afternoon(0, 0), 0);
        T.is("none", () -> x.afternoon(0, 1), NONE);
        T.is("nobody", () -> x.afternoon(6, NONE), 0);
        T.is("nobody", () -> x.afternoon(6, 0), NONE);
        x.book(0, 1, 2);
        x.gate(32, 0);
        T.is("what is booked, or let in, is not looked at", () -> x.afternoon(2, 0), 1);
        T.is("no quarter", () -> x.afternoon(8, NONE), INDEX);
        T.is("no quarter", () -> x.afternoon(-1, 0), INDEX);
        T.is("no host", () -> x.afternoon(0, 2), INDEX);
        T.is("no host", () -> x.afternoon(0, -2), INDEX);
        VisitingHours y = Checks.with(repeat("host patience 1 from 0 to 0", 3, ";") + ";" + repeat("guest stay 1 from 0 to 0", 2, ";"));
        T.is("none is the least", () -> y.afternoon(0, 0), NONE);
        T.is("then the guests", () -> y.afternoon(0, 1), 0);
        T.is("then the guests", () -> y.afternoon(0, 2), 1);
        T.is("how many", () -> y.afternoon(0, NONE), 2);
        VisitingHours z = Checks.with(repeat("host patience 1 from 0 to 0", 8, ";"));
        Checks.ground(z, repeat("guest stay 1 from 0 to 0", 8, ";"));
        T.is("eight", () -> z.afternoon(0, NONE), 8);
        T.is("the last one", () -> z.afternoon(0, 7), 7);
        Checks.ground(z, "likes 7 50000000");
        T.is("a chain of all", () -> z.afternoon(0, 0), 1);
        T.is("the last one", () -> z.afternoon(0, 7), 0);
    }

    private static void rules() {
        T.about("promise 30");
        VisitingHours x = new VisitingHours();
        T.is("none told: how many", () -> x.rules(false), 729);
        T.is("none told: plain", () -> x.rules(true), 0);
        int[][] told = {{1, 1, 0, 0}, {1, 1, 1, 0}, {63, 1}, {0, 1}, {0, 0}, {63, 0, 0, 0}, {7, 1, 6, 0, 15, 0}};
        int[] many = {32, 0, 64, 64, 665, 602, 16};
        int[] plain = {1, NONE, 0, 0, 1, 2, 2};
        for (int i = 0; i < told.length; i++) {
            int[] t = told[i];
            int n = i;
            Checks.tell(x, t);
            T.is("how many, " + n, () -> x.rules(false), many[n]);
            T.is("the tape is used up", () -> x.end(1), false);
            Checks.tell(x, t);
            T.is("plain, " + n, () -> x.rules(true), plain[n]);
        }
        Checks.tell(x, 64, 0);
        T.is("no marks", () -> x.rules(false), ARGUMENT);
        T.is("the tape is used up", () -> x.end(1), false);
        Checks.tell(x, 0, 2);
        T.is("neither 1 nor 0", () -> x.rules(true), ARGUMENT);
        Checks.tell(x, 0, 1, 5);
        T.is("odd", () -> x.rules(false), ARGUMENT);
        Checks.tell(x, new int[40]);
        T.is("40 bytes", () -> x.rules(false), 665);
        Checks.tell(x, new int[42]);
        T.is("42 bytes", () -> x.rules(false), ARGUMENT);
    }

    private static void send() {
        T.about("promise 31");
        VisitingHours x = new VisitingHours();
        T.is("none told", x::send, 0);
        Checks.tell(x, 1, 1, 0, 0);
        T.is("whom", x::send, 3);
        T.is("the tape is used up", () -> x.end(1), false);
        Checks.tell(x, 1, 1, 1, 0);
        T.is("none fits", x::send, NONE);
        Checks.tell(x, 63, 1, 62, 0, 61, 0, 59, 0, 55, 0, 47, 0, 31, 0);
        T.is("one fits", x::send, NONE);
        Checks.tell(x, 63, 1, 62, 0, 61, 0, 59, 0, 55, 0, 47, 0);
        T.is("two fit", x::send, 31);
        Checks.tell(x, 62, 1, 60, 0, 58, 0, 54, 0, 46, 0, 30, 0);
        T.is("parted by all marks alone", x::send, 63);
        Checks.tell(x, 64, 0);
        T.is("no marks", x::send, ARGUMENT);
        T.is("the tape is used up", () -> x.end(1), false);
        Checks.tell(x, 0);
        T.is("odd", x::send, ARGUMENT);
        Checks.tell(x, 0, 255);
        T.is("neither 1 nor 0", x::send, ARGUMENT);
        Checks.tell(x, new int[42]);
        T.is("42 bytes", x::send, ARGUMENT);
    }

    private static void hand() {
        VisitingHours x = Checks.with(repeat("host patience 1 from 0 to 0", 3, ";") + ";" + repeat("guest stay 1 from 0 to 0", 4, ";")
            + ";likes 0 1234;likes 1 4321;likes 2 5555");
        int[][] told = {{0, 1, 2, 3}, {3, 2, 1, 0}, {3, 0}, {}, {1}};
        int[] writer = {1, 0, 0, 0, 0};
        int[] many = {0, 0, 0, 0, 0};
        for (int i = 0; i < told.length; i++) {
            int n = i;
            T.about("promise 32");
            Checks.tell(x, told[n]);
            T.is("writer of " + n, () -> x.hand(false), writer[n]);
            T.is("the tape is used up", () -> x.end(1), false);
            Checks.tell(x, told[n]);
            T.is("how many of " + n, () -> x.hand(true), many[n]);
        }
        x.value(2, 0, true, 1);
        x.value(2, 3, true, 9);
        Checks.tell(x, 1, 0, 2, 3);
        T.is("5 by the first, 1 by the second, 4 by the third", () -> x.hand(false) , 1);
        Checks.tell(x, 1, 0, 2, 3);
        T.is("how many", () -> x.hand(true), 1);
        Checks.tell(x, 0, 0);
        T.is("like ones", () -> x.hand(true), ARGUMENT);
        T.is("the tape is used up", () -> x.end(1), false);
        Checks.tell(x, 4);
        T.is("no guest", () -> x.hand(false), ARGUMENT);
        Checks.tell(x, 255);
        T.is("no guest", () -> x.hand(false), ARGUMENT);
        VisitingHours z = Checks.with("host patience 1 from 0 to 0;guest stay 1 from 0 to 0;guest stay 1 from 0 to 0;guest stay 1 from 0 to 0;likes 0 565");
        Checks.tell(z, 0, 2, 1);
        T.is("like ranks stand rightly", () -> z.hand(true), 2);
        VisitingHours y = Checks.with("guest stay 1 from 0 to 0");
        Checks.tell(y, 0);
        T.is("without hosts", () -> y.hand(false), NONE);
        Checks.tell(y, 0);
        T.is("without hosts", () -> y.hand(true), 0);
    }

    private static void dry() {
        T.about("promise 33");
        VisitingHours x = two();
        T.is("nobody would meet", x::dry, 0);
        x.book(0, 1, 1);
        T.is("one", x::dry, 2);
        x.book(1, 2, 5);
        T.is("two", x::dry, 34);
        x.book(0, 2, 3);
        x.book(1, 0, 3);
        T.is("one for both", x::dry, 8);
        x.gate(0, 4);
        T.is("one who is not let in", x::dry, 10);
        VisitingHours y = Checks.with("host patience 1 from 0 to 7;guest stay 1 from 0 to 7");
        y.book(0, 0, 7);
        y.book(0, 0, 4);
        T.is("the least of several", y::dry, 16);
        VisitingHours z = Checks.with(repeat("host patience 1 from 0 to 7", 8, ";") + ";guest stay 1 from 0 to 7");
        for (int i = 0; i < 8; i++) z.book(i, 0, i);
        T.is("all", z::dry, 255);
        z.strike(0, 0);
        T.is("all but one", z::dry, 254);
    }

    private static void saved() {
        T.about("promise 34");
        VisitingHours x = two();
        x.book(0, 2, 3);
        x.book(1, 0, 3);
        x.book(0, 1, 2);
        x.book(0, 0, 1);
        T.is("none", () -> x.saved(0, 8), 0);
        T.is("one", () -> x.saved(0, 2), 1);
        T.is("one of two", () -> x.saved(0, 6), 1);
        T.is("dry where nobody is", () -> x.saved(0, 3), 0);
        T.is("another host", () -> x.saved(1, 8), 1);
        T.is("none wet", () -> x.saved(0, 0), 0);
        T.is("bits of none count for nothing", () -> x.saved(0, 2 - 256), 1);
        x.gate(4, 0);
        T.is("one who would not meet it", () -> x.saved(0, 2), 0);
        T.is("no host", () -> x.saved(2, 0), INDEX);
        T.is("no host", () -> x.saved(-1, 0), INDEX);
        VisitingHours y = Checks.with("host patience 1 from 0 to 3;host patience 1 from 0 to 3;guest stay 1 from 0 to 3;guest stay 1 from 0 to 2");
        y.book(0, 0, 0);
        y.book(0, 1, 1);
        T.is("each another one", () -> y.saved(0, 3), 2);
        y.book(1, 1, 2);
        T.is("where it is booked with another host", () -> y.saved(0, 3), 1);
        y.book(1, 0, 3);
        T.is("where it is booked with another host", () -> y.saved(0, 3), 1);
        y.strike(1, 2);
        y.book(0, 0, 2);
        T.is("where somebody is booked", () -> y.saved(0, 3), 0);
        VisitingHours z = Checks.with("host patience 1 from 0 to 5;guest stay 1 from 0 to 7");
        z.book(0, 0, 0);
        z.book(0, 0, 1);
        T.is("one guest in two quarters", () -> z.saved(0, 3), 2);
    }

    private static void lend() {
        T.about("promise 35");
        VisitingHours x = Checks.with("host patience 9 from 0 to 0;host patience 9 from 7 to 7;guest stay 1 from 0 to 0;guest stay 1 from 0 to 0;likes 0 37;likes 1 90");
        T.is("how much", () -> x.lend(NONE), 16);
        T.is("guest 0", () -> x.lend(0), 1);
        T.is("guest 1", () -> x.lend(1), 0);
        x.value(0, 1, false, 0);
        T.is("a rank of 0", () -> x.lend(NONE), 9);
        T.is("nowhere", () -> x.lend(1), NONE);
        x.undo();
        x.book(0, 0, 0);
        T.is("booked ones are not lent", () -> x.lend(NONE), 0);
        T.is("nor to hosts with somebody booked", () -> x.lend(1), NONE);
        T.is("no guest", () -> x.lend(2), INDEX);
        T.is("no guest", () -> x.lend(-2), INDEX);
        VisitingHours y = Checks.with("host patience 1 from 0 to 0;host patience 1 from 0 to 0;" + repeat("guest stay 1 from 0 to 0", 3, ";"));
        T.is("none is the least", () -> y.lend(0), NONE);
        T.is("then the hosts", () -> y.lend(1), 0);
        T.is("then the hosts", () -> y.lend(2), 1);
        T.is("of none", () -> new VisitingHours().lend(NONE), 0);
        VisitingHours z = new VisitingHours();
        z.image();
        Checks.ground(z, "host patience 1 from 0 to 0;guest stay 1 from 0 to 0");
        T.is("of one", () -> z.lend(NONE), 5);
        z.back();
        T.is("of none again", () -> z.lend(NONE), 0);
    }

    private static void odds() {
        T.about("promise 36");
        VisitingHours x = Checks.with("rain 30");
        T.is("at least 1 of 1", () -> x.odds(1, 1), 7000);
        T.is("at least 1 of 2", () -> x.odds(2, 1), 9100);
        T.is("at least 2 of 3", () -> x.odds(3, 2), 7840);
        T.is("all of 7, rounded down", () -> x.odds(7, 7), 823);
        T.is("at least 1 of 7", () -> x.odds(7, 1), 9997);
        T.is("8 of 7", () -> x.odds(7, 8), 0);
        T.is("none at least", () -> x.odds(7, 0), 10000);
        T.is("none of none", () -> x.odds(0, 0), 10000);
        T.is("1 of none", () -> x.odds(0, 1), 0);
        T.is("8 quarters", () -> x.odds(8, 0), ARGUMENT);
        T.is("below 0", () -> x.odds(-1, 0), ARGUMENT);
        T.is("9 dry", () -> x.odds(7, 9), ARGUMENT);
        T.is("below 0", () -> x.odds(7, -1), ARGUMENT);
        Checks.ground(x, "rain 100");
        T.is("always wet", () -> x.odds(7, 1), 0);
        T.is("always wet", () -> x.odds(7, 0), 10000);
        Checks.ground(x, "rain 0");
        T.is("always dry", () -> x.odds(7, 7), 10000);
        Checks.ground(x, "rain 1");
        T.is("nearly always dry", () -> x.odds(7, 7), 9320);
        T.is("nearly always dry", () -> x.odds(7, 6), 9979);
    }

    private static void waits() {
        T.about("promise 37");
        VisitingHours x = Checks.with("rain 30");
        T.is("no week", () -> x.waits(0, 0), 0);
        T.is("1", () -> x.waits(1, 7), 7000);
        T.is("2", () -> x.waits(2, 7), 9100);
        T.is("3", () -> x.waits(3, 0), 9730);
        T.is("4, rounded down", () -> x.waits(4, 0), 9919);
        T.is("8, rounded down", () -> x.waits(8, 0), 9999);
        T.is("9", () -> x.waits(9, 0), ARGUMENT);
        T.is("below 0", () -> x.waits(-1, 0), ARGUMENT);
        T.is("no quarter", () -> x.waits(0, 8), INDEX);
        T.is("no quarter, and 9", () -> x.waits(9, -1), INDEX);
        Checks.ground(x, "rain 100");
        T.is("always wet", () -> x.waits(8, 0), 0);
        Checks.ground(x, "rain 0");
        T.is("always dry", () -> x.waits(8, 0), 10000);
        T.is("no week", () -> x.waits(0, 0), 0);
        Checks.ground(x, "rain 99");
        T.is("8", () -> x.waits(8, 3), 772);
    }

    private static void treaty() {
        T.about("promise 38");
        VisitingHours x = two();
        T.is("4", () -> x.treaty(0, 1), 4);
        T.is("the other way round", () -> x.treaty(1, 0), 4);
        T.is("both are one", () -> x.treaty(1, 1), ARGUMENT);
        T.is("no host", () -> x.treaty(2, 2), INDEX);
        T.is("no host", () -> x.treaty(0, -1), INDEX);
        T.is("no host", () -> x.treaty(2, 0), INDEX);
        VisitingHours w = Checks.with("host patience 0 from 0 to 7;host patience 0 from 0 to 0");
        T.is("neither has more than without one", () -> w.treaty(0, 1), 2);
        T.is("the other way round", () -> w.treaty(1, 0), 6);
        VisitingHours y = Checks.with("host patience 9 from 0 to 7;host patience 0 from 0 to 7;host patience 3 from 0 to 1;host patience 0 from 0 to 0;host patience 0 from 7 to 7;host patience 9 from 0 to 7");
        T.is("the one that has more by each", () -> y.treaty(0, 1), 3);
        T.is("hours are few", () -> y.treaty(0, 2), 3);
        T.is("none", () -> y.treaty(3, 4), NONE);
        T.is("like ones", () -> y.treaty(0, 5), 4);
        VisitingHours z = Checks.with("host patience 0 from 0 to 1;host patience 0 from 0 to 7");
        T.is("the least of several", () -> z.treaty(0, 1), 2);
    }

    private static void rests() {
        T.about("promise 39");
        VisitingHours x = two();
        for (int h = 0; h < 2; h++) {
            for (int g = 0; g < 3; g++) {
                int host = h;
                int guest = g;
                T.is("no choices from which neither would go", () -> x.rests(host, guest), 0);
            }
        }
        x.gate(63, 0);
        T.is("not marked", () -> x.rests(0, 0), 0);
        x.value(0, 0, false, 0);
        T.is("a rank of 0", () -> x.rests(0, 0), 0);
        T.is("no host", () -> x.rests(2, 0), INDEX);
        T.is("no host", () -> x.rests(-1, 0), INDEX);
        T.is("no guest", () -> x.rests(0, 3), INDEX);
        T.is("no guest", () -> x.rests(0, -1), INDEX);
    }

    private static void dearestForlornAlike() {
        T.about("promise 40");
        VisitingHours x = two();
        T.is("dearest", x::dearest, 2);
        x.value(0, 0, true, 9);
        T.is("the least of several", x::dearest, 0);
        T.is("none", () -> new VisitingHours().dearest(), NONE);
        T.is("without hosts", () -> Checks.with("guest stay 1 from 0 to 1").dearest(), 0);
        T.about("promise 41");
        T.is("none", x::forlorn, 0);
        x.value(1, 0, false, 0);
        x.gate(63, 0);
        T.is("let in or not", x::forlorn, 0);
        x.value(1, 2, true, 0);
        T.is("forlorn", x::forlorn, 2);
        VisitingHours y = Checks.with("host patience 1 from 0 to 0;host patience 1 from 3 to 4;host patience 1 from 6 to 7");
        T.is("no guests", y::forlorn, 0);
        Checks.ground(y, "guest stay 4 from 1 to 3");
        T.is("by hours", y::forlorn, 5);
        T.about("promise 42");
        T.is("other hours", y::alike, 0);
        VisitingHours z = Checks.with(repeat("host patience 1 from 0 to 1", 3, ";") + ";host patience 9 from 0 to 1");
        T.is("pairs", z::alike, 6);
        Checks.ground(z, "guest stay 1 from 0 to 0;guest stay 1 from 0 to 0;likes 0 55;likes 1 54;loves 0 1234");
        T.is("other ranks by the hosts", z::alike, 3);
        z.value(3, 0, true, 4);
        T.is("other ranks of guest 0", z::alike, 1);
        T.is("none", () -> new VisitingHours().alike(), 0);
    }

    private static void settleGladderAhead() {
        VisitingHours x = two();
        x.book(0, 2, 3);
        x.book(0, 0, 1);
        Checks.ground(x, "rain 100");
        T.about("promise 43");
        T.is("patience 0", () -> x.settle(1), 1);
        T.is("it sees somebody each week", () -> x.settle(0), NONE);
        x.gate(32, 0);
        T.is("patience 2", () -> x.settle(0), 3);
        x.weeks(1);
        T.is("a week on", () -> x.settle(0), 2);
        T.is("no host", () -> x.settle(2), INDEX);
        T.is("no host", () -> x.settle(-1), INDEX);
        VisitingHours far = Checks.with("host patience 9 from 0 to 0;guest stay 1 from 0 to 0", "admit if week<50");
        far.book(0, 0, 0);
        T.is("60", () -> far.settle(0), 60);
        Checks.ground(far, "week 0");
        Checks.law(far, "admit if week<51");
        T.is("61", () -> far.settle(0), NONE);
        T.about("promise 44");
        VisitingHours y = Checks.with("host patience 1 from 0 to 7;guest stay 1 from 0 to 7;rain 100", "glad 4 if lonely>0;glad 1 if week>1");
        y.book(0, 0, 2);
        T.is("without rain", () -> y.gladder(1), 5);
        T.is("0 weeks", () -> y.gladder(0), 0);
        T.is("3 weeks", () -> y.gladder(3), 16);
        y.weeks(1);
        T.is("as it is now", () -> y.gladder(1), 9);
        T.is("more, not all", () -> {
            VisitingHours z = two();
            z.book(0, 0, 1);
            z.weeks(2);
            return z.gladder(1);
        }, 5);
        T.is("61", () -> y.gladder(61), ARGUMENT);
        T.is("below 0", () -> y.gladder(-1), ARGUMENT);
        T.is("60 weeks", () -> y.gladder(60), 9 + 59 * 6);
        T.about("promise 45");
        T.is("gladness", () -> y.ahead(0, 1, 0), 9);
        T.is("lonely", () -> y.ahead(0, 1, 1), 0);
        T.is("lonely now", () -> y.ahead(0, 0, 1), 1);
        T.is("nothing stays", () -> y.host(0, 2) + y.count(4) + y.count(10), 1);
        T.is("no draws", () -> y.seed(1) == new VisitingHours().seed(1), false);
        int seed = y.seed(99);
        y.ahead(0, 60, 0);
        T.is("no draws", () -> y.seed(seed), 99);
        T.is("another what", () -> y.ahead(0, 1, 2), ELEMENT);
        T.is("another what", () -> y.ahead(0, 1, -1), ELEMENT);
        T.is("61, another what", () -> y.ahead(0, 61, 2), ARGUMENT);
        T.is("below 0", () -> y.ahead(0, -1, 0), ARGUMENT);
        T.is("no host, 61", () -> y.ahead(1, 61, 2), INDEX);
    }

    private static void trialAndSpan() {
        T.about("promise 46");
        VisitingHours x = Checks.with("host patience 1 from 0 to 7;host patience 0 from 0 to 7;guest stay 1 from 0 to 7;rain 50");
        for (int q = 0; q < 8; q++) x.book(0, 0, q);
        T.is("0 weeks", () -> x.trial(0, false), 0);
        T.is("0 weeks", () -> x.trial(0, true), 0);
        int tried = x.trial(5, false);
        T.is("who settled", () -> x.trial(5, true), 2);
        T.is("nothing stays", () -> x.count(4) + x.count(9) + x.count(10) + x.count(11), 8);
        x.weeks(5);
        T.is("as it goes", () -> x.count(9), tried);
        x.undo();
        x.gate(1, 0);
        T.is("who settled", () -> x.trial(1, true), 2);
        T.is("who settled", () -> x.trial(2, true), 3);
        T.is("61", () -> x.trial(61, true), ARGUMENT);
        T.is("below 0", () -> x.trial(-1, false), ARGUMENT);
        T.is("60", () -> x.trial(60, false), 0);
        T.is("the draws do not stay", () -> x.seed(1), 1);
        T.about("promise 47");
        x.gate(0, 0);
        int least = Integer.MAX_VALUE;
        int most = 0;
        for (int seed = 1; seed <= 6; seed++) {
            x.seed(seed);
            least = Math.min(least, x.trial(3, false));
            most = Math.max(most, x.trial(3, false));
        }
        int a = least;
        int b = most;
        x.seed(77);
        T.is("the least", () -> x.span(3, false), a);
        T.is("the greatest", () -> x.span(3, true), b);
        T.due("they differ", a < b, true);
        T.is("the seed stays", () -> x.seed(1), 77);
        for (int i = 5; i < 100; i += 5) {
            VisitingHours y = Checks.with("host patience 9 from 0 to 7;guest stay 1 from 0 to 7;rain " + i);
            for (int q = 0; q < 8; q++) y.book(0, 0, q);
            for (int w = 1; w < 4; w++) {
                int low = Integer.MAX_VALUE;
                int high = 0;
                for (int seed = 1; seed <= 6; seed++) {
                    y.seed(seed);
                    low = Math.min(low, y.trial(w, false));
                    high = Math.max(high, y.trial(w, false));
                }
                T.due("the least of " + w + " weeks, rain " + i, y.span(w, false), low);
                T.due("the greatest of " + w + " weeks, rain " + i, y.span(w, true), high);
            }
        }
        T.is("0 weeks", () -> x.span(0, true), 0);
        T.is("61", () -> x.span(61, true), ARGUMENT);
        T.is("below 0", () -> x.span(-1, true), ARGUMENT);
    }

    private static void ledAndLog() {
        T.about("promise 48");
        VisitingHours x = two();
        T.is("none", () -> x.led(0, false), 0);
        T.is("none", () -> x.led(0, true), NONE);
        Checks.ground(x, "week 5");
        x.book(0, 2, 3);
        x.book(0, 0, 1);
        x.weeks(2);
        T.is("rows of meetings", () -> x.led(0, false), 4);
        T.is("the latest", () -> x.led(0, true), 6);
        T.is("rows of settling", () -> x.led(1, false), 2);
        T.is("the latest", () -> x.led(1, true), 6);
        T.is("no host", () -> x.led(2, true), INDEX);
        T.is("no host", () -> x.led(-1, false), INDEX);
        T.about("promise 49");
        int[][] rows = {{6, 1, NONE, NONE, 1, 0}, {6, 0, 2, 3, 0, 9}, {6, 0, 0, 1, 0, 5}, {5, 1, NONE, NONE, 1, 0}, {5, 0, 2, 3, 0, 9}, {5, 0, 0, 1, 0, 5}};
        for (int i = 0; i < rows.length; i++) {
            for (int j = 0; j < 6; j++) {
                int ago = i;
                int what = j;
                T.is("row " + ago + ", " + what, () -> x.log(ago, what), rows[ago][what]);
            }
        }
        T.is("without", () -> x.log(6, 0), -2);
        T.is("without", () -> x.log(-1, 5), -2);
        T.is("without", () -> x.log(Integer.MAX_VALUE, 5), -2);
        T.is("another what", () -> x.log(0, 6), ELEMENT);
        T.is("another what", () -> x.log(0, -1), ELEMENT);
        T.is("another what, without", () -> x.log(99, 6), ELEMENT);
        x.weeks(30);
        T.is("60 rows", () -> x.count(10), 60);
        T.is("the eldest", () -> x.log(59, 0), 17);
        T.is("no more", () -> x.log(60, 0), -2);
        T.is("of both", () -> x.led(0, false) + x.led(1, false), 60);
        VisitingHours y = Checks.with("host patience 1 from 0 to 7;host patience 1 from 0 to 7;guest stay 1 from 0 to 7;guest stay 1 from 0 to 7");
        y.book(1, 0, 0);
        y.book(0, 1, 1);
        y.book(0, 0, 2);
        y.book(1, 1, 2);
        y.weeks(1);
        T.is("by quarters, then by hosts", () -> 1000 * y.log(3, 1) + 100 * y.log(2, 1) + 10 * y.log(1, 1) + y.log(0, 1), 1001);
    }

    private static void seed() {
        T.about("promise 50");
        VisitingHours x = new VisitingHours();
        T.is("1 at first", () -> x.seed(-5), 1);
        T.is("what it was", () -> x.seed(0), -5);
        x.weeks(1);
        T.is("after 8 draws", () -> {
            int seed = 0;
            for (int i = 0; i < 8; i++) seed = 1103515245 * seed + 12345;
            return x.seed(1) == seed;
        }, true);
        T.is("no act", () -> x.count(11), 1);
        x.undo();
        T.is("as it was ahead of the act", () -> x.seed(1), 0);
    }

    private static void undo() {
        T.about("promise 51");
        VisitingHours x = two();
        T.is("none", x::undo, false);
        for (int i = 0; i < 13; i++) x.mark(0, i + 10);
        T.is("12 are remembered", () -> x.count(11), 12);
        for (int i = 0; i < 12; i++) {
            int n = i;
            T.is("undo", x::undo, true);
            T.is("back by one", () -> x.guest(0, 2), 21 - n);
        }
        T.is("the first one is remembered no more", x::undo, false);
        T.is("it stays", () -> x.guest(0, 2), 10);
        x.book(0, 2, 3);
        x.weeks(7);
        x.value(0, 2, true, 1);
        x.gate(1, 2);
        x.change(0, 1, 3);
        x.strike(1, 3);
        T.is("acts", () -> x.count(11), 6);
        T.is("strike", () -> x.undo() && x.booked(1, 3) == 2, true);
        T.is("change", () -> x.undo() && x.booked(1, 3) == NONE && x.booked(0, 3) == 2, true);
        T.is("gate", () -> x.undo() && x.count(6) == 0 && x.count(7) == 0, true);
        T.is("value", () -> x.undo() && x.rank(0, 2, true) == 9, true);
        x.weeks(1);
        T.is("the log, too", () -> x.undo() && x.log(0, 0) == 6 && x.log(13, 0) == 0 && x.log(14, 0) == -2, true);
        T.is("weeks", () -> x.undo() && x.count(4) == 0 && x.count(9) == 0 && x.count(10) == 0, true);
        T.is("the seed of the weeks", () -> x.seed(1), 1);
        T.is("book", () -> x.undo() && x.booked(0, 3) == NONE, true);
        T.is("none is left", x::undo, false);
        x.mark(0, 1);
        Checks.ground(x, "rain 5");
        T.is("a text of the ground", () -> x.count(11), 0);
        T.is("a text of the ground", x::undo, false);
        x.mark(0, 2);
        Checks.law(x, "admit");
        T.is("the law", x::undo, false);
        x.mark(0, 3);
        T.is("a wrong text", () -> Checks.law(x, "admit 1"), ARGUMENT);
        x.seed(5);
        x.feed(1, 1, 1, 1, 1);
        T.is("leaves the acts", x::undo, true);
        T.is("marks", () -> x.guest(0, 2), 2);
        T.is("the seed", () -> x.seed(1), 1);
        T.is("the tape stays", () -> x.end(20), true);
        T.is("fault stays", x::fault, 6);
        x.mark(0, 4);
        x.image();
        x.mark(0, 5);
        T.is("undo", x::undo, true);
        T.is("the image stays", () -> x.back() && x.guest(0, 2) == 4, true);
        T.is("going back", x::undo, false);
    }

    private static void imageAndBack() {
        T.about("promise 52");
        VisitingHours x = two();
        T.is("none was kept", x::back, false);
        x.book(0, 2, 3);
        x.weeks(2);
        Checks.law(x, "glad 7");
        x.mark(0, 63);
        x.image();
        T.is("no act", () -> x.count(11), 1);
        int seed = x.seed(1);
        x.weeks(9);
        Checks.law(x, "glad 1;glad 2");
        Checks.ground(x, "rain 44;needs a;host patience 1 from 0 to 0;guest stay 1 from 0 to 0;likes 0 1111;loves 0 111");
        x.strike(0, 3);
        x.mark(0, 1);
        x.feed(1, 2, 3, 4, 5);
        T.about("promise 53");
        T.is("back", x::back, true);
        T.is("hosts", () -> x.count(0), 2);
        T.is("guests", () -> x.count(1), 3);
        T.is("texts", () -> x.count(2), 1);
        T.is("law", () -> x.count(3), 1);
        T.is("joy", () -> x.joy(0, 0, 0), 12);
        T.is("week", () -> x.count(4), 2);
        T.is("rain", () -> x.count(5), 0);
        T.is("gate", () -> x.count(6), 0);
        T.is("booked", () -> x.booked(0, 3), 2);
        T.is("gladness", () -> x.count(9), 18);
        T.is("rows", () -> x.count(10), 4);
        T.is("marks", () -> x.guest(0, 2), 63);
        T.is("loves", () -> x.rank(0, 0, false), 3);
        T.is("none are remembered", x::undo, false);
        T.is("seed", () -> x.seed(4), seed);
        T.is("the tape stays", () -> x.end(20), true);
        x.mark(0, 7);
        T.is("again", x::back, true);
        T.is("marks", () -> x.guest(0, 2), 63);
        T.is("seed", () -> x.seed(4), seed);
        x.image();
        T.is("the new one", () -> x.back() && x.seed(4) == 4, true);
        Checks.ground(x, "host patience 1 from 0 to 0");
        T.is("a host of later on has ranks of 5", () -> x.rank(2, 2, true) + x.rank(2, 2, false), 10);
        VisitingHours y = new VisitingHours();
        y.image();
        Checks.law(y, "admit");
        y.back();
        T.is("without a law", () -> y.count(3), NONE);
    }

    private static void count() {
        T.about("promise 54");
        VisitingHours x = two();
        Checks.ground(x, "rain 1;week 9;needs a;bars b");
        Checks.law(x, "glad 1;glad 2;admit");
        x.book(0, 2, 3);
        x.book(0, 0, 1);
        x.weeks(1);
        x.strike(0, 1);
        int[] due = {2, 3, 2, 3, 10, 1, 1, 2, 1, 20, 3, 4};
        for (int i = 0; i < 12; i++) {
            int what = i;
            T.is("what " + what, () -> x.count(what), due[what]);
        }
        T.is("another what", () -> x.count(12), NONE);
        T.is("another what", () -> x.count(-1), NONE);
    }

    private static void refusedCallsChangeNothing() {
        T.about("refused calls");
        VisitingHours x = two();
        x.book(0, 2, 3);
        x.feed(1, 2, 3, 4, 5);
        String before = all(x);
        T.is("book", () -> x.book(0, 2, 3), STATE);
        T.is("strike", () -> x.strike(0, 0), STATE);
        T.is("change", () -> x.change(0, 0, 3), ARGUMENT);
        T.is("mark", () -> x.mark(0, 64), ARGUMENT);
        T.is("gate", () -> x.gate(5, 64), ARGUMENT);
        T.is("value", () -> x.value(0, 0, true, 10), ARGUMENT);
        T.is("weeks", () -> x.weeks(61), ARGUMENT);
        T.is("trial", () -> x.trial(61, true), ARGUMENT);
        T.is("ahead", () -> x.ahead(0, 3, 2), ELEMENT);
        T.due("all", all(x), before);
        T.is("the tape", () -> x.end(20), true);
        T.is("ground", x::ground, ARGUMENT);
        T.due("all", all(x), before);
    }

    private static String all(VisitingHours x) {
        StringBuilder s = new StringBuilder();
        for (int i = 0; i < 12; i++) s.append(x.count(i)).append(' ');
        for (int h = 0; h < 2; h++) {
            for (int i = 0; i < 7; i++) s.append(x.host(h, i)).append(' ');
            for (int q = 0; q < 8; q++) s.append(x.booked(h, q)).append(' ');
            for (int g = 0; g < 3; g++) s.append(x.rank(h, g, true)).append(x.rank(h, g, false)).append(' ');
        }
        for (int g = 0; g < 3; g++) for (int i = 0; i < 6; i++) s.append(x.guest(g, i)).append(' ');
        int seed = x.seed(0);
        x.seed(seed);
        return s.append(seed).toString();
    }
}
