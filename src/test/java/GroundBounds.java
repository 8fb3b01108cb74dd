/** Promise 4: THE GROUND. */
final class GroundBounds extends Bounds {
    /** One right LINE of each kind, if there are a HOST and a GUEST. */
    private static final String[] LINES = {
        "host patience 1 from 2 to 5", "guest stay 1 from 2 to 5 marks ab", "likes 0 5", "loves 0 5", "rain 5", "week 5", "needs ab", "bars ab"};

    static void all() {
        texts();
        tooManyTexts();
        imageOfTexts();
        fourteenLines();
        eightHosts();
        eightGuests();
        cutLines();
        strangeThings();
        otherWords();
        patience();
        stay();
        quartersOfHours();
        rain();
        week();
        digits();
        marks();
        gateLines();
        likesByThen();
        lovesByThen();
        figuresOfLikes();
        figuresOfLoves();
        ranksAtFirst();
        wordsAndBlanks();
        emptyTexts();
        eachByte();
        firstWrongByte();
        nothingStays();
    }

    private static VisitingHours one() {
        return some(1, 1);
    }

    private static void right(String text) {
        VisitingHours x = one();
        T.is("«" + text + "»", () -> Checks.ground(x, text), 3);
        T.is("fault of «" + text + "»", x::fault, NONE);
    }

    private static void wrong(String text, int at) {
        VisitingHours x = one();
        wrongGround(x, text, at);
        T.is("what stays of «" + text + "»", () -> x.count(0) + 10 * x.count(1) + 100 * x.count(2), 211);
    }

    private static void texts() {
        holds(4, "THE GROUND is told in texts (at most 12, one behind another)");
        VisitingHours x = new VisitingHours();
        for (int i = 1; i <= 12; i++) T.due("text " + i, Checks.ground(x, i == 1 ? HOST : "week " + i), i);
        holds(4, "Uses the TAPE up: a text of THE GROUND: how many there are.");
        T.is("the tape", () -> x.end(1), false);
        T.is("texts", () -> x.count(2), 12);
        T.is("the first stands", () -> x.count(0), 1);
        T.is("the last, too", () -> x.count(4), 12);
        T.is("one more", () -> Checks.ground(x, "week 13"), FULL);
    }

    private static void tooManyTexts() {
        holds(4, "IllegalArgumentException: it is wrong; UnsupportedOperationException: there are 12.");
        VisitingHours x = new VisitingHours();
        for (int i = 1; i <= 12; i++) Checks.ground(x, "week " + i);
        x.gate(1, 2);
        for (String text : new String[] {"week 13", "", "  ", HOST}) {
            T.is("a 13th, «" + text + "»", () -> Checks.ground(x, text), FULL);
            T.is("its tape", () -> x.end(1), false);
            T.is("its fault", x::fault, NONE);
        }
        wrongGround(x, "week 1000", 5);
        T.is("its tape", () -> x.end(1), false);
        T.is("texts", () -> x.count(2), 12);
        T.is("hosts", () -> x.count(0), 0);
        T.is("week", () -> x.count(4), 12);
        T.is("acts", () -> x.count(11), 1);
        T.is("the law is another text", () -> Checks.law(x, "admit"), 1);
    }

    private static void imageOfTexts() {
        holds(4, "THE IMAGE (one) of all may be kept, and gone back to");
        VisitingHours x = new VisitingHours();
        for (int i = 1; i <= 11; i++) Checks.ground(x, "week " + i);
        x.image();
        T.is("the 12th", () -> Checks.ground(x, "week 12"), 12);
        x.back();
        T.is("texts", () -> x.count(2), 11);
        T.is("the 12th again", () -> Checks.ground(x, "week 13"), 12);
        T.is("the 13th", () -> Checks.ground(x, "week 14"), FULL);
    }

    private static void fourteenLines() {
        holds(4, "LINE { ; LINE }, at most 14");
        right("week 7");
        right(lines("week 7", 14));
        right(repeat("week 7", 14, " ; "));
        String full = lines("week 7", 14);
        holds(4, "of a LINE, a HOST, a GUEST too many, the first word");
        wrong(full + ";week 7", 98);
        wrong(full + "; week 7", 99);
        wrong(full + ";rain 101", 98);
        wrong(full + " week 7", 98);
        wrong(full + ";", 98);
        wrong(full + "; ", 99);
    }

    private static void eightHosts() {
        holds(4, "HOSTS (at most 8, numbered from 0 on)");
        VisitingHours x = new VisitingHours();
        for (int i = 0; i < 8; i++) {
            int host = i;
            T.is("no host " + host, () -> x.host(host, 0), INDEX);
            Checks.ground(x, "host patience " + i + " from " + i + " to 7");
            T.is("host " + host, () -> x.host(host, 0), host);
        }
        T.is("eight", () -> x.count(0), 8);
        wrongGround(x, HOST, 0);
        wrongGround(x, "rain 5; " + HOST, 8);
        wrongGround(x, "rain 5;host", 7);
        T.is("no host 8", () -> x.host(8, 0), INDEX);
        T.is("nor the line ahead of it", () -> x.count(5), 0);
        VisitingHours y = new VisitingHours();
        wrongGround(y, lines(HOST, 9), 8 * (HOST.length() + 1));
        T.is("none of nine", () -> y.count(0), 0);
        T.is("eight in one text", () -> Checks.ground(y, lines(HOST, 8)), 1);
        T.is("eight", () -> y.count(0), 8);
    }

    private static void eightGuests() {
        holds(4, "GUESTS (at most 8, numbered from 0 on)");
        VisitingHours x = new VisitingHours();
        for (int i = 0; i < 8; i++) {
            int guest = i;
            T.is("no guest " + guest, () -> x.guest(guest, 1), INDEX);
            Checks.ground(x, "guest stay 1 from " + i + " to " + i);
            T.is("guest " + guest, () -> x.guest(guest, 1), 1 << guest);
        }
        T.is("eight", () -> x.count(1), 8);
        wrongGround(x, GUEST, 0);
        wrongGround(x, HOST + ";  guest", 30);
        T.is("no guest 8", () -> x.guest(8, 1), INDEX);
        T.is("nor the line ahead of it", () -> x.count(0), 0);
        VisitingHours y = new VisitingHours();
        wrongGround(y, lines(GUEST, 9), 8 * (GUEST.length() + 1));
        T.is("none of nine", () -> y.count(1), 0);
    }

    private static void cutLines() {
        holds(4, "host patience N from N to N | guest stay N from N to N [ marks T ] | likes N F | loves N F | rain N | week N | needs T | bars T.");
        for (String line : LINES) {
            right(line);
            right(line + ";" + line);
            String[] things = line.split(" ");
            StringBuilder cut = new StringBuilder();
            for (int i = 0; i + 1 < things.length; i++) {
                cut.append(i == 0 ? "" : " ").append(things[i]);
                if (cut.toString().endsWith("to 5")) continue;
                wrong(cut.toString(), cut.length());
                wrong(cut + "   ", cut.length() + 3);
                wrong(cut + ";rain 5", cut.length());
                wrong("rain 5;" + cut, cut.length() + 7);
            }
        }
        right("guest stay 1 from 2 to 5");
        wrong("host patience 1 from 2 to 5 marks ab", 28);
        wrong("guest stay 1 from 2 to 5 marks ab marks c", 34);
    }

    private static void strangeThings() {
        holds(4, "The first wrong byte: the begin of the first thing that cannot stand there");
        for (String line : LINES) {
            String[] things = line.split(" ");
            int at = 0;
            for (int i = 0; i < things.length; i++) {
                String ahead = line.substring(0, at);
                String behind = line.substring(at + things[i].length());
                for (String strange : new String[] {"zzz", "(", "1234", "\u00e9", "-1", "A", "+"}) {
                    wrong(ahead + strange + behind, at);
                }
                at += things[i].length() + 1;
            }
            wrong(line + " zzz", line.length() + 1);
            wrong(line + "  5", line.length() + 2);
            wrong(line + ",", line.length());
        }
    }

    private static void otherWords() {
        holds(4, "a word that is none;");
        for (String line : LINES) {
            String[] things = line.split(" ");
            int at = 0;
            for (int i = 0; i < things.length; i++) {
                String ahead = line.substring(0, at);
                String behind = line.substring(at + things[i].length());
                for (String word : WORDS) {
                    if (i > 0 && !word.equals(things[i])) wrong(ahead + word + behind, at);
                }
                for (String word : nearly(things[i])) {
                    if (things[i].matches("[g-z]+|.*[g-z].*") && !word.isEmpty()) wrong(ahead + word + behind, at);
                }
                at += things[i].length() + 1;
            }
        }
        for (String word : WORDS) {
            boolean begins = false;
            for (String line : LINES) begins |= line.startsWith(word + " ");
            if (!begins) wrong(word + " 5", 0);
        }
    }

    private static void patience() {
        holds(4, "patience 0 to 9");
        VisitingHours x = Checks.with("host patience 0 from 0 to 0;host patience 9 from 0 to 0");
        T.is("the least", () -> x.host(0, 0), 0);
        T.is("the greatest", () -> x.host(1, 0), 9);
        wrong("host patience 10 from 0 to 0", 14);
        wrong("host patience -1 from 0 to 0", 14);
        wrong("host patience 999 from 0 to 0", 14);
        holds(7, "PATIENCE 0 to 9, HOURS: QUARTERS, as bits");
        T.is("the least hours", () -> x.host(0, 1), 1);
        T.is("the greatest hours", () -> one().host(0, 1), 255);
    }

    private static void stay() {
        holds(8, "STAY 1 to 4 QUARTERS");
        VisitingHours x = Checks.with("guest stay 1 from 7 to 7;guest stay 4 from 0 to 7");
        T.is("the least", () -> x.guest(0, 0), 1);
        T.is("the greatest", () -> x.guest(1, 0), 4);
        T.is("the last quarter", () -> x.guest(0, 1), 128);
        T.is("all", () -> x.guest(1, 1), 255);
        wrong("guest stay 0 from 0 to 0", 11);
        wrong("guest stay 5 from 0 to 0", 11);
        right("guest stay 4 from 0 to 0");
    }

    private static void quartersOfHours() {
        holds(4, "from, to: QUARTERS, both too, the second not below the first");
        for (int from = 0; from <= 8; from++) {
            for (int to = 0; to <= 8; to++) {
                int set = 0;
                for (int q = from; q <= to; q++) set |= 1 << q;
                int due = set;
                String host = "host patience 1 from " + from + " to " + to;
                String guest = "guest stay 1 from " + from + " to " + to;
                if (from > 7) {
                    wrong(host, 21);
                    wrong(guest, 18);
                } else if (to > 7 || to < from) {
                    wrong(host, 26);
                    wrong(guest, 23);
                } else {
                    T.is("hours, " + host, () -> Checks.with(host).host(0, 1), due);
                    T.is("hours, " + guest, () -> Checks.with(guest).guest(0, 1), due);
                }
            }
        }
    }

    private static void rain() {
        holds(4, "RAIN 0 to 100 (0 at first)");
        VisitingHours x = new VisitingHours();
        T.is("at first", () -> x.count(5), 0);
        for (int n : new int[] {100, 1, 99, 0}) {
            Checks.ground(x, "rain " + n);
            T.is("rain " + n, () -> x.count(5), n);
        }
        wrong("rain 101", 5);
        wrong("rain 999", 5);
        wrong("rain -1", 5);
    }

    private static void week() {
        holds(4, "week: 0 to 999");
        VisitingHours x = new VisitingHours();
        for (int n : new int[] {999, 1, 0}) {
            Checks.ground(x, "week " + n);
            T.is("week " + n, () -> x.count(4), n);
        }
        wrong("week 1000", 5);
        wrong("week 9999", 5);
        wrong("week -1", 5);
    }

    private static void digits() {
        holds(4, "Numbers are of 1 to 3 digits.");
        VisitingHours x = new VisitingHours();
        Checks.ground(x, "rain 007;week 010;host patience 009 from 000 to 007;guest stay 04 from 01 to 001");
        T.is("rain", () -> x.count(5), 7);
        T.is("week", () -> x.count(4), 10);
        T.is("patience", () -> x.host(0, 0), 9);
        T.is("hours", () -> x.host(0, 1), 255);
        T.is("stay", () -> x.guest(0, 0), 4);
        T.is("hours", () -> x.guest(0, 1), 2);
        right("likes 000 5");
        right("loves 00 5");
        wrong("rain 0000", 5);
        wrong("rain 0007", 5);
        wrong("host patience 0001 from 0 to 0", 14);
        wrong("host patience 1 from 0000 to 0", 21);
        wrong("host patience 1 from 0 to 0000", 26);
        wrong("guest stay 0001 from 0 to 0", 11);
        wrong("likes 0000 5", 6);
        wrong("loves 0000 5", 6);
    }

    private static void marks() {
        holds(4, "T: a word of letters a to f, none twice");
        for (int i = 0; i < 6; i++) {
            String letter = String.valueOf((char) ('a' + i));
            T.due("marks " + letter, Checks.with(GUEST + " marks " + letter).guest(0, 2), 1 << i);
        }
        holds(8, "MARKS a to f, as bits.");
        T.is("all", () -> Checks.with(GUEST + " marks abcdef").guest(0, 2), 63);
        T.is("without", () -> Checks.with(GUEST).guest(0, 2), 0);
        T.is("in any row", () -> Checks.with(GUEST + " marks fbdace").guest(0, 2), 63);
        holds(4, "letters that are none such;");
        for (String word : new String[] {"g", "aa", "aba", "abcdefa", "abcdefg", "z", "ga", "marks", "1", "A"}) {
            wrong(GUEST + " marks " + word, 31);
            wrong("needs " + word, 6);
            wrong("bars " + word, 5);
        }
        wrong("needs a b", 8);
        wrong("needs aB", 7);
        wrong("bars a1", 6);
    }

    private static void gateLines() {
        holds(4, "needs, bars: MARKS of GATE, in place of those before.");
        VisitingHours x = Checks.with("needs abcdef;bars abcdef");
        T.is("needs", () -> x.count(6), 63);
        T.is("bars", () -> x.count(7), 63);
        Checks.ground(x, "needs b;needs c");
        T.is("needs, the last alone", () -> x.count(6), 4);
        T.is("bars stay", () -> x.count(7), 63);
        Checks.ground(x, "bars f");
        T.is("bars", () -> x.count(7), 32);
        x.gate(1, 2);
        Checks.ground(x, "needs d");
        T.is("in place of those of gate", () -> 100 * x.count(6) + x.count(7), 802);
    }

    private static void likesByThen() {
        holds(4, "likes: RANKS of a HOST that there is by then");
        VisitingHours x = some(2, 1);
        T.is("the first and the last", () -> Checks.ground(x, "likes 0 9;likes 1 0"), 3);
        T.is("9", () -> x.rank(0, 0, true), 9);
        T.is("0", () -> x.rank(1, 0, true), 0);
        wrongGround(x, "likes 2 5", 6);
        wrongGround(x, "likes 2 5;" + HOST, 6);
        T.is("by then", () -> Checks.ground(x, HOST + ";likes 2 7"), 4);
        T.is("7", () -> x.rank(2, 0, true), 7);
        VisitingHours none = some(0, 1);
        wrongGround(none, "likes 0 5", 6);
        wrongGround(none, "likes", 5);
        VisitingHours eight = some(8, 1);
        T.is("host 7", () -> Checks.ground(eight, "likes 7 3"), 3);
        wrongGround(eight, "likes 8 3", 6);
    }

    private static void lovesByThen() {
        holds(4, "loves: RANKS of a GUEST that there is by then");
        VisitingHours x = some(1, 2);
        T.is("the first and the last", () -> Checks.ground(x, "loves 0 9;loves 1 0"), 3);
        T.is("9", () -> x.rank(0, 0, false), 9);
        T.is("0", () -> x.rank(0, 1, false), 0);
        wrongGround(x, "loves 2 5", 6);
        wrongGround(x, "loves 2 5;" + GUEST, 6);
        T.is("by then", () -> Checks.ground(x, GUEST + ";loves 2 7"), 4);
        T.is("7", () -> x.rank(0, 2, false), 7);
        VisitingHours none = some(1, 0);
        wrongGround(none, "loves 0 5", 6);
        VisitingHours eight = some(1, 8);
        T.is("guest 7", () -> Checks.ground(eight, "loves 7 3"), 3);
        wrongGround(eight, "loves 8 3", 6);
    }

    private static void figuresOfLikes() {
        holds(4, "F: as many figures as there are GUESTS by then");
        for (int guests = 1; guests <= 8; guests++) {
            VisitingHours x = some(1, guests);
            String due = "98765432".substring(0, guests);
            wrongGround(x, "likes 0 " + due.substring(1), 8);
            wrongGround(x, "likes 0 " + due + "1", 8);
            T.is(guests + " figures", () -> Checks.ground(x, "likes 0 " + due), 3);
            int last = guests - 1;
            T.is("the first", () -> x.rank(0, 0, true), 9);
            T.is("the last", () -> x.rank(0, last, true), 9 - last);
        }
        VisitingHours x = some(1, 0);
        T.is("none", () -> Checks.ground(x, "likes 0;rain 4"), 3);
        T.is("the line behind", () -> x.count(5), 4);
        wrongGround(x, "likes 0 5", 8);
        T.is("by then", () -> Checks.ground(x, "likes 0;" + GUEST + ";likes 0 7;" + GUEST + ";likes 0 78"), 4);
        T.is("the last line", () -> x.rank(0, 0, true) * 10 + x.rank(0, 1, true), 78);
        holds(4, "figures of another number");
        wrongGround(x, "likes 0 7 8", 8);
        wrongGround(x, "likes 0 7x", 8);
        wrongGround(x, "likes 0 78x", 10);
        wrongGround(x, "likes 078", 6);
    }

    private static void figuresOfLoves() {
        holds(4, "as many figures as there are HOSTS by then");
        for (int hosts = 1; hosts <= 8; hosts++) {
            VisitingHours x = some(hosts, 1);
            String due = "98765432".substring(0, hosts);
            wrongGround(x, "loves 0 " + due.substring(1), 8);
            wrongGround(x, "loves 0 " + due + "1", 8);
            T.is(hosts + " figures", () -> Checks.ground(x, "loves 0 " + due), 3);
            int last = hosts - 1;
            T.is("the first", () -> x.rank(0, 0, false), 9);
            T.is("the last", () -> x.rank(last, 0, false), 9 - last);
        }
        VisitingHours x = some(0, 1);
        T.is("none", () -> Checks.ground(x, "loves 0;rain 4"), 3);
        T.is("the line behind", () -> x.count(5), 4);
        wrongGround(x, "loves 0 5", 8);
        T.is("by then", () -> Checks.ground(x, HOST + ";loves 0 7;" + HOST + ";loves 0 78"), 4);
        T.is("the last line", () -> x.rank(0, 0, false) * 10 + x.rank(1, 0, false), 78);
    }

    private static void ranksAtFirst() {
        holds(9, "RANK 0 to 9 of each GUEST (5 at first; 0: never with it)");
        VisitingHours x = some(1, 1);
        T.is("at first", () -> x.rank(0, 0, true), 5);
        Checks.ground(x, "likes 0 0;" + GUEST);
        T.is("0", () -> x.rank(0, 0, true), 0);
        T.is("a later guest", () -> x.rank(0, 1, true), 5);
        T.is("never", () -> x.can(0, 0, 0), false);
        T.is("the other one can", () -> x.can(0, 1, 0), true);
        Checks.ground(x, "likes 0 91");
        T.is("9", () -> x.rank(0, 0, true), 9);
        T.is("1 can", () -> x.can(0, 1, 0), true);
        holds(9, "RANK 0 to 9 of each HOST (5 at first; 0: never to it)");
        T.is("at first", () -> x.rank(0, 1, false), 5);
        Checks.ground(x, "loves 1 0;" + HOST);
        T.is("0", () -> x.rank(0, 1, false), 0);
        T.is("a later host", () -> x.rank(1, 1, false), 5);
        T.is("never", () -> x.can(0, 1, 0), false);
        T.is("to the other one", () -> x.can(1, 1, 0), true);
        Checks.ground(x, "loves 1 19");
        T.is("9", () -> x.rank(1, 1, false), 9);
        T.is("1 can", () -> x.can(0, 1, 0), true);
    }

    private static void wordsAndBlanks() {
        holds(4, "Words are as long as a to z go on; between all there may be blanks (32), also ahead and behind.");
        right("host patience1from0to7;guest stay1from0to7marks a;likes0 55;loves0 55;rain5;week5;needs a;bars b");
        right("   host   patience   1   from   0   to   7   ;   rain   5   ");
        wrong("hosts patience 1 from 0 to 7", 0);
        wrong("hos patience 1 from 0 to 7", 0);
        wrong("hostpatience 1 from 0 to 7", 0);
        wrong("host patience 1 fromm 0 to 7", 16);
        wrong("host patience 1 from 0 t 7", 23);
        wrong("host patience 1 from 0 too 7", 23);
        wrong("h ost patience 1 from 0 to 7", 0);
        wrong(GUEST + " marksa", 25);
        wrong("rain 1 0", 7);
        wrong("Rain 10", 0);
        wrong("raiN 10", 0);
    }

    private static void emptyTexts() {
        holds(4, "A text that is empty, or blanks alone, has no LINE.");
        VisitingHours x = new VisitingHours();
        T.is("empty", () -> Checks.ground(x, ""), 1);
        T.is("a blank", () -> Checks.ground(x, " "), 2);
        T.is("400 blanks", () -> Checks.ground(x, " ".repeat(400)), 3);
        T.is("texts", () -> x.count(2), 3);
        T.is("hosts", () -> x.count(0), 0);
        T.is("fault", x::fault, NONE);
        wrongGround(x, ";", 0);
        wrongGround(x, "rain 5;;rain 5", 7);
        wrongGround(x, "rain 5; ;rain 5", 8);
    }

    private static void eachByte() {
        holds(4, "(a number of more digits, or out of its bounds, or that tells none that can be;");
        for (int b = 0; b < 256; b++) {
            String sign = String.valueOf((char) b);
            boolean blank = b == ' ';
            boolean digit = b >= '0' && b <= '9';
            if (blank) right(sign);
            else wrong(sign, 0);
            if (blank || digit) right("rain 5" + sign);
            else wrong("rain 5" + sign, b == ';' ? 7 : 6);
            if (blank || digit) right("rain " + sign + "5");
            else wrong("rain " + sign + "5", 5);
        }
    }

    private static void firstWrongByte() {
        holds(4, "letters that are none such; a word that is none;");
        wrong("needs abg;rain 101", 6);
        wrong("rain 5;rainy 5;rain 101", 7);
        wrong(" rainy", 1);
        holds(4, "IllegalArgumentException: it is wrong;");
        wrong("host patience 10 from 9 to 0", 14);
        wrong("host patience 1 from 9 to 0", 21);
        wrong("host patience 1 from 4 to 3;", 26);
    }

    private static void nothingStays() {
        holds(4, "Of a wrong text nothing stays.");
        VisitingHours x = some(1, 1);
        x.book(0, 0, 3);
        wrongGround(x, HOST + ";" + GUEST + " marks a;likes 0 99;loves 0 99;rain 5;week 5;needs a;bars b;x", 112);
        T.is("hosts", () -> x.count(0), 1);
        T.is("guests", () -> x.count(1), 1);
        T.is("texts", () -> x.count(2), 2);
        T.is("ranks", () -> 10 * x.rank(0, 0, true) + x.rank(0, 0, false), 55);
        T.is("rain, week, gate", () -> x.count(5) + x.count(4) + x.count(6) + x.count(7), 0);
        T.is("booked", () -> x.booked(0, 3), 0);
        T.is("acts", x::undo, true);
        Checks.ground(x, HOST + ";" + GUEST);
        T.is("ranks of those that come then", () -> 1000 * x.rank(0, 1, true) + 100 * x.rank(0, 1, false) + 10 * x.rank(1, 0, true) + x.rank(1, 0, false), 5555);
        T.is("marks of those that come then", () -> x.guest(1, 2), 0);
    }
}
