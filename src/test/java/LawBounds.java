/** Promises 5, 12 and 13: THE LAW, LET IN, and JOY. */
final class LawBounds extends Bounds {
    static void all() {
        inPlace();
        twelveLines();
        lineKinds();
        amounts();
        cutLaw();
        strangeThings();
        otherWords();
        manyParts();
        conditions();
        equalIsNeither();
        numbersOfSums();
        partsAtTheirBounds();
        sixDeep();
        seventhDeep();
        longest();
        emptyLaw();
        eachByte();
        wrongLawStays();
        letInWithout();
        letInBySome();
        gatePassed();
        expected();
        joyOfAll();
        joyAtLeast();
    }

    private static VisitingHours one() {
        return some(1, 1);
    }

    private static void right(String text, int lines) {
        VisitingHours x = one();
        T.is("«" + text + "»", () -> Checks.law(x, text), lines);
        T.is("fault of «" + text + "»", x::fault, NONE);
    }

    private static void wrong(String text, int at) {
        VisitingHours x = one();
        wrongLaw(x, text, at);
        T.is("what stays of «" + text + "»", () -> x.count(3), NONE);
    }

    private static boolean holdsNow(VisitingHours x, String condition, int host, int guest, int quarter) {
        Checks.law(x, "glad 50 if " + condition);
        return x.joy(host, guest, quarter) == 50 + x.rank(host, guest, true);
    }

    private static void inPlace() {
        holds(5, "THE LAW (a text, in place of the one before): LINE { ; LINE }, at most 12");
        VisitingHours x = one();
        T.is("without one", () -> x.count(3), NONE);
        T.is("three lines", () -> Checks.law(x, "glad 1;glad 2;glad 3"), 3);
        T.is("joy", () -> x.joy(0, 0, 0), 11);
        T.is("one line", () -> Checks.law(x, "glad 9"), 1);
        T.is("joy", () -> x.joy(0, 0, 0), 14);
        T.is("none", () -> Checks.law(x, ""), 0);
        T.is("joy", () -> x.joy(0, 0, 0), 5);
        for (int i = 0; i < 20; i++) Checks.law(x, "glad " + i);
        T.is("more than 12 texts, one behind another", () -> x.joy(0, 0, 0), 24);
    }

    private static void twelveLines() {
        holds(5, "Uses the TAPE up: THE LAW: how many LINES. IllegalArgumentException: the text is wrong.");
        right("admit", 1);
        right(lines("admit", 11), 11);
        right(lines("admit", 12), 12);
        right(" " + repeat("glad 1", 12, " ; ") + " ", 12);
        String full = lines("admit", 12);
        wrong(full + ";admit", 72);
        wrong(full + ";  admit", 74);
        wrong(full + ";glad 100", 72);
        wrong(full + " admit", 72);
        wrong(full + ";", 72);
        wrong(full + "; ", 73);
        VisitingHours x = one();
        Checks.law(x, full);
        T.is("the tape behind a right one", () -> x.end(1), false);
        wrongLaw(x, "admit 1", 6);
        T.is("the tape behind a wrong one", () -> x.end(1), false);
    }

    private static void lineKinds() {
        holds(5, "glad N [ if C ] | sour N [ if C ] | admit [ if C ].");
        right("glad 1", 1);
        right("sour 1", 1);
        right("admit", 1);
        right("glad 1 if marked;sour 1 if marked;admit if marked", 3);
        wrong("admit 1", 6);
        wrong("admit marked", 6);
        wrong("glad marked", 5);
        wrong("glad if marked", 5);
        wrong("sour", 4);
        wrong("glad 1 if", 9);
        wrong("if marked", 0);
        wrong("marked", 0);
        wrong("rain 5", 0);
        wrong("glads 1", 0);
        wrong("glad 1 glad 1", 7);
        wrong("glad 1 if marked if marked", 17);
    }

    private static void amounts() {
        holds(5, "All numbers are of 1 to 3 digits (N 0 to 99).");
        for (int n : new int[] {0, 1, 99}) {
            VisitingHours x = one();
            Checks.law(x, "glad " + n);
            T.is("glad " + n, () -> x.joy(0, 0, 0), 5 + n);
            Checks.law(x, "glad 99;sour " + n);
            T.is("sour " + n, () -> x.joy(0, 0, 0), 104 - n);
        }
        right("glad 000;sour 099;glad 01", 3);
        wrong("glad 100", 5);
        wrong("sour 100", 5);
        wrong("glad 999", 5);
        wrong("glad 0000", 5);
        wrong("sour 0099", 5);
        wrong("glad -1", 5);
    }

    private static final String WHOLE = "glad 5 if not ( marked and rank + 3 < loved or expected ) and host > 0 or week + 1 > 2 ; admit";

    private static void cutLaw() {
        holds(5, "C: ALL { or ALL }; ALL: ATOM { and ATOM }; ATOM: not ATOM | ( C ) | marked | expected | SUM < SUM | SUM > SUM.");
        right(WHOLE, 2);
        String[] things = WHOLE.split(" ");
        StringBuilder cut = new StringBuilder();
        for (int i = 0; i + 1 < things.length; i++) {
            cut.append(i == 0 ? "" : " ").append(things[i]);
            boolean whole = cut.toString().matches("glad 5|.*\\)|.*host > 0|.*\\+ 1 > 2");
            if (whole) right(cut.toString(), 1);
            else wrong(cut.toString(), cut.length());
            if (!whole) wrong(cut + "  ", cut.length() + 2);
        }
    }

    private static void strangeThings() {
        holds(5, "The first wrong byte: the begin of the first thing that cannot stand there");
        String[] things = WHOLE.split(" ");
        int at = 0;
        for (String thing : things) {
            String ahead = WHOLE.substring(0, at);
            String behind = WHOLE.substring(at + thing.length());
            for (String strange : new String[] {"zzz", "1234", "\u00e9", "glad", "=", "M", "if;"}) {
                boolean right = strange.equals("glad") && (at == 0 || thing.equals("admit")) || strange.startsWith("if") && thing.equals("if");
                int due = !right ? at : strange.equals("glad") ? at == 0 ? NONE : WHOLE.length() - 1 : at + 2;
                if (due != NONE) wrong(ahead + strange + behind, due);
            }
            at += thing.length() + 1;
        }
        wrong("admit if marked )", 16);
        wrong("admit if (marked))", 17);
        wrong("admit if ()", 10);
        wrong("admit if (marked", 16);
        wrong("admit if (rank) < 3", 14);
        wrong("admit if rank < 3 < 4", 18);
        wrong("admit if rank < not marked", 16);
        wrong("admit if marked < 2", 16);
        wrong("admit if marked + 1 < 2", 16);
        wrong("admit if 1 + marked < 2", 13);
        wrong("admit if marked expected", 16);
    }

    private static void otherWords() {
        holds(5, "a word that is none;");
        String[] things = WHOLE.split(" ");
        int at = 0;
        for (String thing : things) {
            String ahead = WHOLE.substring(0, at);
            String behind = WHOLE.substring(at + thing.length());
            for (String word : new String[] {"likes", "loves", "rain", "needs", "bars", "patience", "from", "to", "stay", "marks"}) wrong(ahead + word + behind, at);
            for (String word : WORDS) {
                if (thing.matches("5|if|[<>+]") && !word.equals(thing)) wrong(ahead + word + behind, at);
                if (thing.matches("[);]") && !word.matches("and|or")) wrong(ahead + word + behind, at);
            }
            for (String word : nearly(thing)) {
                if (thing.matches("[a-z]+")) wrong(ahead + word + behind, at);
            }
            at += thing.length() + 1;
        }
        for (String word : WORDS) {
            if (!word.matches("glad|sour|admit")) wrong(word + " 5", 0);
            if (word.matches("glad|sour|admit|if|or|and")) wrong("admit if " + word + " < 5", 9);
        }
        for (String word : new String[] {"quarter", "lonely", "expected"}) {
            for (String other : nearly(word)) wrong("admit if " + other, 9);
        }
        for (String other : nearly("sour")) wrong(other + " 5", 0);
    }

    private static void manyParts() {
        holds(5, "SUM: PART { + PART }; PART: NUMBER | host | guest | quarter | lonely | rank | loved | week.");
        VisitingHours x = some(2, 2);
        Checks.ground(x, "likes 1 34;loves 1 67;week 8");
        x.weeks(2);
        String[] parts = {"host", "guest", "quarter", "lonely", "rank", "loved", "week", "9"};
        int[] due = {1, 1, 5, 2, 4, 7, 10, 9};
        for (int i = 0; i < parts.length; i++) {
            String equal = parts[i] + " + 1 > " + due[i] + " and " + parts[i] + " < 1 + " + due[i];
            T.is(equal, () -> holdsNow(x, equal, 1, 1, 5), true);
        }
        T.is("all together", () -> holdsNow(x, "host+guest+quarter+lonely+rank+loved+week+9 > 38 and 40 > host+guest+quarter+lonely+rank+loved+week+9", 1, 1, 5), true);
        wrong("admit if + rank < 3", 9);
        wrong("admit if rank + < 3", 16);
        wrong("admit if rank ++ 1 < 3", 15);
        wrong("admit if rank < 3 +", 19);
        wrong("admit if stay < 3", 9);
        wrong("admit if patience < 3", 9);
    }

    private static void conditions() {
        holds(5, "C: ALL { or ALL }; ALL: ATOM { and ATOM };");
        VisitingHours x = one();
        String[] is = {"marked", "not not marked", "marked or 1>2 and 1>2", "1>2 and 1>2 or marked", "not 1>2 and marked", "not (marked and 1>2)",
            "1>2 or 1>2 or marked", "not (1>2 or 1>2)", "not 1>2 or marked", "(marked or 1>2) and marked"};
        for (String c : is) T.is(c, () -> holdsNow(x, c, 0, 0, 0), true);
        String[] isNot = {"not marked", "(marked or 1>2) and 1>2", "marked and marked and 1>2", "not marked and marked", "not (marked or 1>2)",
            "not marked or 1>2", "1>2 or 1>2 or 1>2", "not not 1>2", "(1>2 or marked) and not marked"};
        for (String c : isNot) T.is(c, () -> holdsNow(x, c, 0, 0, 0), false);
        wrong("admit if or marked", 9);
        wrong("admit if and marked", 9);
        wrong("admit if marked or and marked", 19);
        wrong("admit if marked and", 19);
        wrong("admit if marked or", 18);
        wrong("admit if marked not marked", 16);
    }

    private static void equalIsNeither() {
        holds(5, "SUM < SUM | SUM > SUM");
        VisitingHours x = one();
        T.is("4 < 5", () -> holdsNow(x, "4 < 5", 0, 0, 0), true);
        T.is("5 < 5", () -> holdsNow(x, "5 < 5", 0, 0, 0), false);
        T.is("6 < 5", () -> holdsNow(x, "6 < 5", 0, 0, 0), false);
        T.is("4 > 5", () -> holdsNow(x, "4 > 5", 0, 0, 0), false);
        T.is("5 > 5", () -> holdsNow(x, "5 > 5", 0, 0, 0), false);
        T.is("6 > 5", () -> holdsNow(x, "6 > 5", 0, 0, 0), true);
        wrong("admit if 1 <> 2", 12);
        wrong("admit if 1 = 2", 11);
        wrong("admit if 1", 10);
    }

    private static void numbersOfSums() {
        holds(5, "a number of more digits, or out of its bounds");
        VisitingHours x = one();
        T.is("0 and 999", () -> holdsNow(x, "0 < 999", 0, 0, 0), true);
        T.is("000 and 0", () -> holdsNow(x, "000 < 0", 0, 0, 0), false);
        T.is("999 twice", () -> holdsNow(x, "999 + 999 > 999 + 998", 0, 0, 0), true);
        wrong("admit if 1000 < 1", 9);
        wrong("admit if 1 < 1000", 13);
        wrong("admit if 0001 < 1", 9);
        wrong("admit if 1 + 0001 < 1", 13);
        wrong("admit if -1 < 1", 9);
    }

    private static void partsAtTheirBounds() {
        holds(5, "Of a HOST, a GUEST and a QUARTER: rank: RANK of the GUEST by the HOST; loved: RANK of the HOST by the GUEST; lonely: of the HOST");
        VisitingHours x = some(8, 8);
        Checks.ground(x, "likes 0 00000009;likes 7 90000000;loves 0 00000009;loves 7 90000000");
        T.is("host, guest, quarter 0", () -> holdsNow(x, "host < 1 and guest < 1 and quarter < 1", 0, 0, 0), true);
        T.is("host, guest, quarter 7", () -> holdsNow(x, "host > 6 and guest > 6 and quarter > 6 and host + guest + quarter < 22", 7, 7, 7), true);
        T.is("rank 0", () -> holdsNow(x, "rank < 1", 0, 0, 0), true);
        T.is("rank 9", () -> holdsNow(x, "rank > 8", 0, 7, 0), true);
        T.is("rank 9 by the last", () -> holdsNow(x, "rank > 8", 7, 0, 0), true);
        T.is("loved 0", () -> holdsNow(x, "loved < 1", 0, 0, 0), true);
        T.is("loved 9", () -> holdsNow(x, "loved > 8", 7, 0, 0), true);
        T.is("loved 9 by the last", () -> holdsNow(x, "loved > 8", 0, 7, 0), true);
        T.is("lonely 0", () -> holdsNow(x, "lonely < 1", 0, 0, 0), true);
        x.weeks(9);
        T.is("lonely 9", () -> holdsNow(x, "lonely > 8", 0, 0, 0), true);
        x.weeks(1);
        T.is("lonely 0 again", () -> holdsNow(x, "lonely < 1", 0, 0, 0), true);
        T.is("week 10", () -> holdsNow(x, "week > 9 and week < 11", 0, 0, 0), true);
    }

    private static void sixDeep() {
        holds(5, "( and not within one another at most 6 deep.");
        for (int open = 0; open <= 6; open++) {
            String c = "(".repeat(open) + "not ".repeat(6 - open) + "1<2" + ")".repeat(open);
            T.is(c, () -> holdsNow(one(), c, 0, 0, 0), (6 - open) % 2 == 0);
            String d = "not ".repeat(6 - open) + "(".repeat(open) + "1<2" + ")".repeat(open);
            T.is(d, () -> holdsNow(one(), d, 0, 0, 0), (6 - open) % 2 == 0);
        }
        T.is("in turn", () -> holdsNow(one(), "not(not(not(1>2)))", 0, 0, 0), true);
        T.is("six deep, and six deep again", () -> holdsNow(one(), repeat("((((((1<2))))))", 4, " and ") + " or not not not not not not 1>2", 0, 0, 0), true);
        T.is("six deep in each line", () -> Checks.law(one(), lines("admit if not not not not not not marked", 8)), 8);
        T.is("more than six that are not within one another", () -> holdsNow(one(), "(not (1>2) and not (1>2)) and (not (1>2) and not (1>2))", 0, 0, 0), true);
    }

    private static void seventhDeep() {
        holds(5, "the ( or not that is a 7th one deep;");
        for (int open = 0; open <= 6; open++) {
            String six = "admit if " + "(".repeat(open) + "not ".repeat(6 - open);
            wrong(six + "not marked" + ")".repeat(open), six.length());
            wrong(six + "(marked)" + ")".repeat(open), six.length());
            wrong(six + "not", six.length());
            wrong(six + "(", six.length());
        }
        String other = "admit if ((((((marked)))))) and ((((((";
        wrong(other + "(marked)))))))", other.length());
        String behind = "admit if (((((marked or (1<2) and (1<2 and ";
        wrong(behind + "(marked", behind.length());
        right("admit if (((((marked or (1<2) and (1<2 and marked))))))", 1);
    }

    private static void longest() {
        holds(2, "NONE, and none come, if it would have more than 400.");
        VisitingHours x = one();
        String sum = "glad 1 if 193<" + repeat("1", 193, "+") + " ";
        T.due("its length", sum.length(), 400);
        T.is("a sum of 193", () -> Checks.law(x, sum), 1);
        T.is("is not above 193", () -> x.joy(0, 0, 0), 5);
        Checks.law(x, sum.replace("193", "192"));
        T.is("is above 192", () -> x.joy(0, 0, 0), 6);
        String all = "glad 1 if " + repeat("1<2", 48, " and ");
        Checks.law(x, all + " and 1<2");
        T.is("all of 49", () -> x.joy(0, 0, 0), 6);
        Checks.law(x, all + " and 2<1");
        T.is("all of 49 but the last", () -> x.joy(0, 0, 0), 5);
        String some = "glad 1 if " + repeat("2<1", 54, " or ");
        Checks.law(x, some + " or 2<1");
        T.is("none of 55", () -> x.joy(0, 0, 0), 5);
        Checks.law(x, some + " or 1<2");
        T.is("the last of 55", () -> x.joy(0, 0, 0), 6);
        String nested = "2<1 or 1<2 and (".repeat(6) + "2<1+1+1" + ")".repeat(6);
        T.is("much that waits at once", () -> holdsNow(x, nested, 0, 0, 0), true);
    }

    private static void emptyLaw() {
        holds(5, "A text that is empty, or blanks alone, has no LINE.");
        VisitingHours x = one();
        T.is("empty", () -> Checks.law(x, ""), 0);
        T.is("not without one", () -> x.count(3), 0);
        T.is("blanks", () -> Checks.law(x, " ".repeat(400)), 0);
        T.is("fault", x::fault, NONE);
        T.is("it is no text of the ground", () -> x.count(2), 2);
        wrongLaw(x, ";", 0);
        wrongLaw(x, "admit;;admit", 6);
    }

    private static void eachByte() {
        holds(5, "Words are as long as a to z go on; between all there may be blanks (32), also ahead and behind.");
        for (int b = 0; b < 256; b++) {
            String sign = String.valueOf((char) b);
            boolean blank = b == ' ';
            boolean digit = b >= '0' && b <= '9';
            boolean letter = b >= 'a' && b <= 'z';
            if (blank) right(sign, 0);
            else wrong(sign, 0);
            if (blank) right("admit" + sign, 1);
            else wrong("admit" + sign, letter ? 0 : b == ';' ? 6 : 5);
            if (blank || digit) right("glad 1 if 2<1" + sign, 1);
            else if (b == '+' || b == ';') wrong("glad 1 if 2<1" + sign, 14);
            else wrong("glad 1 if 2<1" + sign, 13);
        }
        right("glad1if(rank+1<2or marked)and not(marked)or 3<4;admit if(marked);sour 2", 3);
        right("  glad  1  if  (  rank  +  1  <  2  )  ;  admit  ", 2);
        wrong("admit ifmarked", 6);
        wrong("admit if notmarked", 9);
        wrong("admit if marked andmarked", 16);
        wrong("admit if rank1<2orrank<1", 13);
    }

    private static void wrongLawStays() {
        holds(5, "Of a wrong text nothing stays.");
        VisitingHours x = one();
        Checks.law(x, "glad 7;admit if 1>2");
        x.gate(1, 1);
        wrongLaw(x, "glad 1;sour 2;admit;x", 20);
        T.is("lines", () -> x.count(3), 2);
        T.is("joy", () -> x.joy(0, 0, 0), 12);
        T.is("let in", () -> x.lets(0, 0, 0), false);
        T.is("acts", () -> x.count(11), 1);
        VisitingHours y = one();
        wrongLaw(y, "glad 1;x", 7);
        T.is("without one", () -> y.count(3), NONE);
        T.is("joy", () -> y.joy(0, 0, 0), 5);
    }

    private static void letInWithout() {
        holds(12, "LET IN: without admit LINES (or a text): if it is marked; else if some admit LINE holds.");
        VisitingHours x = one();
        for (String law : new String[] {null, "", "glad 5", "glad 5;sour 6 if 1<2", "glad 5 if 2<1"}) {
            if (law != null) Checks.law(x, law);
            x.gate(0, 0);
            T.is("marked, " + law, () -> x.lets(0, 0, 0), true);
            x.gate(1, 0);
            T.is("not marked, " + law, () -> x.lets(0, 0, 0), false);
        }
        Checks.law(x, "admit if 2<1");
        x.gate(0, 0);
        T.is("marked, and no admit line holds", () -> x.lets(0, 0, 0), false);
        Checks.law(x, "admit");
        x.gate(1, 0);
        T.is("not marked, and an admit line holds", () -> x.lets(0, 0, 0), true);
    }

    private static void letInBySome() {
        holds(12, "`boolean lets(int host, int guest, int quarter) throws IndexOutOfBoundsException`: LET IN.");
        VisitingHours x = some(1, 2);
        Checks.law(x, lines("admit if 2<1", 11) + ";admit if guest>0");
        T.is("the 12th line holds", () -> x.lets(0, 1, 0), true);
        T.is("none holds", () -> x.lets(0, 0, 0), false);
        Checks.law(x, "admit if quarter<1;glad 5;admit if 2<1");
        T.is("the first line holds", () -> x.lets(0, 0, 0), true);
        T.is("none holds", () -> x.lets(0, 0, 1), false);
        Checks.ground(x, "likes 0 00;loves 0 0");
        T.is("one that cannot may be let in", () -> x.lets(0, 0, 0), true);
    }

    private static void gatePassed() {
        holds(12, "marked: MARKS of the GUEST pass the GATE (all that must be there are, none that must not)");
        VisitingHours x = one();
        int[][] due = {{0, 0, 0, 1}, {0, 63, 0, 1}, {63, 63, 0, 1}, {63, 62, 0, 0}, {63, 31, 0, 0}, {0, 0, 63, 1}, {0, 32, 63, 0}, {0, 1, 63, 0},
            {1, 1, 1, 0}, {1, 0, 1, 0}, {3, 1, 0, 0}, {3, 7, 0, 1}, {3, 7, 4, 0}, {32, 32, 31, 1}};
        for (int[] d : due) {
            x.gate(d[0], d[2]);
            x.mark(0, d[1]);
            T.is("marks " + d[1] + " at a gate of " + d[0] + " and " + d[2], () -> x.lets(0, 0, 0), d[3] == 1);
            T.is("passes " + d[1] + " at a gate of " + d[0] + " and " + d[2], () -> x.guest(0, 5), d[3]);
        }
    }

    private static void expected() {
        holds(12, "expected: that GUEST is BOOKED with that HOST in that QUARTER");
        VisitingHours x = some(2, 2);
        Checks.law(x, "admit if expected");
        T.is("nothing booked", () -> x.lets(0, 0, 0), false);
        x.book(0, 0, 0);
        x.book(1, 1, 7);
        T.is("booked", () -> x.lets(0, 0, 0), true);
        T.is("booked in the last quarter", () -> x.lets(1, 1, 7), true);
        T.is("another guest", () -> x.lets(0, 1, 0), false);
        T.is("another host", () -> x.lets(1, 0, 0), false);
        T.is("another quarter", () -> x.lets(0, 0, 1), false);
        String[] is = {"not not expected", "expected and marked", "marked and expected", "expected or 2<1", "(expected) and not 2<1"};
        for (String c : is) T.is(c, () -> holdsNow(x, c, 0, 0, 0), true);
        T.is("not expected", () -> holdsNow(x, "not expected", 0, 0, 0), false);
        T.is("not expected", () -> holdsNow(x, "not expected", 0, 1, 0), true);
        Checks.law(x, "admit if expected");
        x.strike(0, 0);
        T.is("struck", () -> x.lets(0, 0, 0), false);
    }

    private static void joyOfAll() {
        holds(13, "JOY: RANK and the sum of N of all glad LINES that hold, less that of all sour LINES, 0 at least.");
        VisitingHours x = one();
        T.is("without a law", () -> x.joy(0, 0, 0), 5);
        Checks.law(x, "glad 20 if quarter<1;glad 7;sour 2 if quarter>0;sour 1;admit;admit if 2<1");
        T.is("those that hold", () -> x.joy(0, 0, 0), 31);
        T.is("those that hold", () -> x.joy(0, 0, 1), 9);
        Checks.law(x, lines("glad 99", 12));
        x.value(0, 0, true, 9);
        T.is("the most", () -> x.joy(0, 0, 0), 9 + 12 * 99);
        x.value(0, 0, true, 0);
        T.is("one that cannot", () -> x.joy(0, 0, 0), 12 * 99);
    }

    private static void joyAtLeast() {
        holds(13, "less that of all sour LINES, 0 at least.");
        VisitingHours x = one();
        Checks.law(x, "sour 4");
        T.is("1", () -> x.joy(0, 0, 0), 1);
        Checks.law(x, "sour 5");
        T.is("0", () -> x.joy(0, 0, 0), 0);
        Checks.law(x, "sour 6");
        T.is("below 0", () -> x.joy(0, 0, 0), 0);
        Checks.law(x, lines("sour 99", 12));
        T.is("far below 0", () -> x.joy(0, 0, 0), 0);
        Checks.law(x, "sour 99;glad 98");
        T.is("below 0 on the way alone", () -> x.joy(0, 0, 0), 4);
        x.book(0, 0, 0);
        Checks.law(x, "sour 99");
        T.is("a meeting of joy 0", () -> x.weeks(1), 1);
        T.is("gladness", () -> x.host(0, 2), 0);
        T.is("lonely", () -> x.host(0, 3), 0);
    }
}
