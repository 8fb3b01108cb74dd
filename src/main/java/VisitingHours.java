import java.util.NoSuchElementException;

public final class VisitingHours {
    public static final int NONE = -1;

    private static final int QUARTERS = 8;
    /** HOSTS at most, and GUESTS at most. */
    private static final int MOST = 8;
    /** Length of a table of numbers with a row for each of MOST. */
    private static final int TABLE = 64;
    private static final int FIRST_RANK = 5;
    private static final int MOST_RANK = 9;
    private static final int MOST_GLADNESS = 999;
    private static final int MOST_LONELY = 99;
    private static final int MOST_WEEK = 9999;
    private static final int MOST_WEEKS = 60;
    private static final int ALL_MARKS = 63;
    private static final int MOST_TEXTS = 12;
    private static final int GROUND_LINES = 14;
    private static final int LAW_LINES = 12;
    private static final int DEEPEST = 6;
    private static final int TAPE_LENGTH = 400;
    private static final int RULE_BYTES = 40;
    private static final int LOG_ROWS = 60;
    private static final int LOG_WIDTH = 6;
    private static final int NO_ROW = -2;
    private static final int MEETING = 0;
    private static final int SETTLED = 1;
    private static final int REMEMBERED = 12;
    /** Ways to choose of six MARKS those that must be there and those that must not. */
    private static final int GATES = 729;
    private static final int NOBODY = 255;
    private static final int SEEDS = 6;
    private static final int WHOLE = 10000;
    private static final int TREATY_LEAST = 2;
    private static final int TREATY_FINE = 4;
    private static final int SETS = 256;
    private static final int ABOVE_WISHES = 1000;

    /** What a token is: a sign, a number, or a word; those of facts stand in one row. */
    private static final int END = 0;
    private static final int STRANGE = 1;
    private static final int NUMBER = 2;
    private static final int SEMICOLON = 3;
    private static final int OPEN = 4;
    private static final int CLOSE = 5;
    private static final int LESS = 6;
    private static final int MORE = 7;
    private static final int PLUS = 8;
    private static final int WORD = 9;
    private static final int HOST = 10;
    private static final int GUEST = 11;
    private static final int QUARTER = 12;
    private static final int LONELY = 13;
    private static final int RANK = 14;
    private static final int LOVED = 15;
    private static final int WEEK = 16;
    private static final int MARKED = 17;
    private static final int EXPECTED = 18;
    private static final int PATIENCE = 19;
    private static final int FROM = 20;
    private static final int TO = 21;
    private static final int STAY = 22;
    private static final int MARKS = 23;
    private static final int LIKES = 24;
    private static final int LOVES = 25;
    private static final int RAIN = 26;
    private static final int NEEDS = 27;
    private static final int BARS = 28;
    private static final int GLAD = 29;
    private static final int SOUR = 30;
    private static final int ADMIT = 31;
    private static final int IF = 32;
    private static final int OR = 33;
    private static final int AND = 34;
    private static final int NOT = 35;
    private static final int FACTS = EXPECTED - HOST + 1;

    private final Text tape;
    private final GroundReader groundReader;
    private final LawReader lawReader;
    private final State now;
    /** Where weeks are tried that do not stay. */
    private final State tried;
    private final State kept;
    private boolean isKept = false;
    private final Past past;
    private final Pairs pairs = new Pairs();
    private final Match match = new Match();
    private final Gates gates = new Gates();
    /** Of each set of GUESTS the first QUARTER behind all of them, as they are seen. */
    private final int[] behind = new int[SETS];
    /** Of each HOST the QUARTERS in which it would MEET somebody. */
    private final int[] wanted = new int[MOST];

    public VisitingHours() {
        Law noLaw = new Law(NONE, new int[0], new int[0], new int[0], new int[0]);
        now = new State(noLaw);
        tried = new State(noLaw);
        kept = new State(noLaw);
        past = new Past(noLaw);
        Text text = new Text();
        tape = text;
        groundReader = new GroundReader(text, new State(noLaw));
        lawReader = new LawReader(text);
    }

    public int feed(int a, int b, int c, int d, int e) {
        if (!tape.hasRoomFor(20)) {
            return NONE;
        }
        tape.append(a);
        tape.append(b);
        tape.append(c);
        tape.append(d);
        tape.append(e);
        return tape.length;
    }

    public boolean end(int n) {
        return tape.shorten(n);
    }

    public int ground() throws IllegalArgumentException, UnsupportedOperationException {
        boolean right = groundReader.read(now);
        tape.empty();
        if (!right) {
            throw new IllegalArgumentException("the text of the ground is wrong");
        }
        if (now.texts >= MOST_TEXTS) {
            throw new UnsupportedOperationException("there are 12 texts");
        }
        now.take(groundReader.draft);
        now.texts++;
        past.forget();
        return now.texts;
    }

    public int law() throws IllegalArgumentException {
        boolean right = lawReader.read();
        tape.empty();
        if (!right) {
            throw new IllegalArgumentException("the text of the law is wrong");
        }
        now.law = lawReader.written();
        past.forget();
        return now.law.lines;
    }

    public int fault() {
        return tape.wrong;
    }

    public int host(int host, int what) throws IndexOutOfBoundsException, NoSuchElementException {
        needHost(host);
        switch (what) {
            case 0:
                return get(now.people.patience, host);
            case 1:
                return get(now.people.hostHours, host);
            case 2:
                return get(now.gladness, host);
            case 3:
                return get(now.lonely, host);
            case 4:
                return now.freeOf(host);
            case 5:
                return now.seenBy(host);
            case 6:
                return shareOf(host);
            default:
                throw new NoSuchElementException("a host has no such number");
        }
    }

    public int guest(int guest, int what) throws IndexOutOfBoundsException, NoSuchElementException {
        needGuest(guest);
        switch (what) {
            case 0:
                return get(now.people.stay, guest);
            case 1:
                return get(now.people.guestHours, guest);
            case 2:
                return get(now.people.marks, guest);
            case 3:
                return now.busyOf(guest);
            case 4:
                return now.people.likedOf(guest);
            case 5:
                return now.isMarked(guest) ? 1 : 0;
            default:
                throw new NoSuchElementException("a guest has no such number");
        }
    }

    public int rank(int host, int guest, boolean by) throws IndexOutOfBoundsException {
        needHost(host);
        needGuest(guest);
        return now.people.rankOf(host, guest, by);
    }

    public int booked(int host, int quarter) throws IndexOutOfBoundsException {
        needHost(host);
        needQuarter(quarter);
        return now.guestAt(host, quarter);
    }

    public boolean can(int host, int guest, int quarter) throws IndexOutOfBoundsException {
        needMeeting(host, guest, quarter);
        return now.people.canMeet(host, guest, quarter);
    }

    public boolean lets(int host, int guest, int quarter) throws IndexOutOfBoundsException {
        needMeeting(host, guest, quarter);
        return now.isLetIn(host, guest, quarter);
    }

    public int joy(int host, int guest, int quarter) throws IndexOutOfBoundsException {
        needMeeting(host, guest, quarter);
        return now.joyOf(host, guest, quarter);
    }

    public int book(int host, int guest, int quarter) throws IndexOutOfBoundsException, IllegalStateException {
        needMeeting(host, guest, quarter);
        if (!now.people.canMeet(host, guest, quarter) || has(now.busyOf(guest), quarter)) {
            throw new IllegalStateException("the guest cannot be booked then");
        }
        past.keep(now);
        int before = now.guestAt(host, quarter);
        now.enter(host, quarter, guest);
        return before;
    }

    public int strike(int host, int quarter) throws IndexOutOfBoundsException, IllegalStateException {
        needHost(host);
        needQuarter(quarter);
        int before = now.guestAt(host, quarter);
        if (before == NONE) {
            throw new IllegalStateException("nobody is booked then");
        }
        past.keep(now);
        now.enter(host, quarter, NONE);
        return before;
    }

    public int change(int host, int other, int quarter) throws IndexOutOfBoundsException, IllegalArgumentException {
        needHost(host);
        needHost(other);
        needQuarter(quarter);
        needTwo(host, other);
        past.keep(now);
        int gone = now.guestAt(host, quarter);
        int come = now.guestAt(other, quarter);
        now.enter(host, quarter, come);
        now.enter(other, quarter, gone);
        return come;
    }

    public int mark(int guest, int marks) throws IndexOutOfBoundsException, IllegalArgumentException {
        needGuest(guest);
        needNumber(marks, 0, ALL_MARKS);
        past.keep(now);
        int before = get(now.people.marks, guest);
        put(now.people.marks, guest, marks);
        return before;
    }

    public int gate(int must, int not) throws IllegalArgumentException {
        needNumber(must, 0, ALL_MARKS);
        needNumber(not, 0, ALL_MARKS);
        past.keep(now);
        int before = 64 * now.must + now.mustNot;
        now.must = must;
        now.mustNot = not;
        return before;
    }

    public int value(int host, int guest, boolean by, int n) throws IndexOutOfBoundsException, IllegalArgumentException {
        needHost(host);
        needGuest(guest);
        needNumber(n, 0, MOST_RANK);
        past.keep(now);
        int before = now.people.rankOf(host, guest, by);
        now.people.tellRank(host, guest, by, n);
        return before;
    }

    public int weeks(int n) throws IllegalArgumentException {
        needNumber(n, 1, MOST_WEEKS);
        past.keep(now);
        int met = 0;
        for (int i = 0; i < n; i++) {
            met += now.passWeek(true);
        }
        return met;
    }

    public int meetings(boolean glad) {
        int sum = 0;
        for (int host = 0; host < now.people.hosts; host++) {
            for (int quarter = 0; quarter < QUARTERS; quarter++) {
                if (now.meetsAt(host, quarter)) {
                    sum += glad ? now.joyOf(host, now.guestAt(host, quarter), quarter) : 1;
                }
            }
        }
        return sum;
    }

    public int twice() {
        int once = 0;
        int more = 0;
        for (int host = 0; host < now.people.hosts; host++) {
            int seen = now.seenBy(host);
            more |= once & seen;
            once |= seen;
        }
        return more;
    }

    public int taboo() {
        int sum = 0;
        for (int host = 0; host < now.people.hosts; host++) {
            for (int quarter = 0; quarter < QUARTERS; quarter++) {
                if (now.guestAt(host, quarter) != NONE && !now.meetsAt(host, quarter)) {
                    sum++;
                }
            }
        }
        return sum;
    }

    public int hostBest(int host) throws IndexOutOfBoundsException {
        needHost(host);
        pairs.learn(now.people);
        pairs.askByHosts();
        return get(pairs.mate, host);
    }

    public int guestBest(int host) throws IndexOutOfBoundsException {
        needHost(host);
        pairs.learn(now.people);
        pairs.askByGuests();
        return get(pairs.mate, host);
    }

    public int ways() {
        pairs.learn(now.people);
        return pairs.calmWays();
    }

    public int rather() throws IllegalArgumentException {
        pairs.learn(now.people);
        boolean right = pairs.hear(tape);
        tape.empty();
        if (!right) {
            throw new IllegalArgumentException("that is no row of guests, one for each host");
        }
        return pairs.mayBe() ? pairs.rivals() : NONE;
    }

    public int row(int host, int guests, boolean set) throws IndexOutOfBoundsException {
        needHost(host);
        int best = 0;
        put(behind, 0, 0);
        for (int some = 1; some < 1 << now.people.guests; some++) {
            if ((some & ~guests) != 0) {
                continue;
            }
            put(behind, some, firstBehind(host, some));
            if (get(behind, some) != NONE && Integer.bitCount(some) > Integer.bitCount(best)) {
                best = some;
            }
        }
        return set ? best : Integer.bitCount(best);
    }

    public int afternoon(int quarter, int host) throws IndexOutOfBoundsException {
        needQuarter(quarter);
        if (host != NONE) {
            needHost(host);
        }
        match.begin(now.people.hosts, now.people.guests);
        for (int one = 0; one < now.people.hosts; one++) {
            for (int guest = 0; guest < now.people.guests; guest++) {
                match.allow(one, guest, now.people.canMeet(one, guest, quarter) ? 1 : 0);
            }
        }
        match.solve();
        return host == NONE ? match.total() : match.columnOf(host);
    }

    public int rules(boolean plain) throws IllegalArgumentException {
        hearRows();
        return plain ? gates.plainest() : gates.many;
    }

    public int send() throws IllegalArgumentException {
        hearRows();
        return gates.parting();
    }

    public int hand(boolean many) throws IllegalArgumentException {
        boolean right = isList();
        int told = tape.length;
        tape.empty();
        if (!right) {
            throw new IllegalArgumentException("that is no row of unlike guests");
        }
        int writer = NONE;
        int fewest = 0;
        for (int host = 0; host < now.people.hosts; host++) {
            int wrong = wrongWayRound(host, told);
            if (writer == NONE || wrong < fewest) {
                writer = host;
                fewest = wrong;
            }
        }
        return many ? fewest : writer;
    }

    public int dry() {
        for (int host = 0; host < MOST; host++) {
            put(wanted, host, host < now.people.hosts ? now.meetingQuarters(host) : 0);
        }
        int best = SETS - 1;
        for (int set = 0; set < SETS; set++) {
            // the sets come from the least on: so of several of like size the first one stays
            if (Integer.bitCount(set) < Integer.bitCount(best) && isDryEnough(set)) {
                best = set;
            }
        }
        return best;
    }

    public int saved(int host, int wet) throws IndexOutOfBoundsException {
        needHost(host);
        match.begin(QUARTERS, QUARTERS);
        int places = now.freeOf(host) & ~wet;
        int moved = now.meetingQuarters(host) & wet;
        for (int from = 0; from < QUARTERS; from++) {
            int guest = now.guestAt(host, from);
            if (!has(moved, from) || guest == NONE) {
                continue;
            }
            int good = places & get(now.people.guestHours, guest) & ~now.busyOf(guest);
            for (int to = 0; to < QUARTERS; to++) {
                match.allow(from, to, has(good, to) ? 1 : 0);
            }
        }
        match.solve();
        return match.total();
    }

    public int lend(int guest) throws IndexOutOfBoundsException {
        if (guest != NONE) {
            needGuest(guest);
        }
        match.begin(now.people.guests, now.people.hosts);
        for (int one = 0; one < now.people.guests; one++) {
            for (int host = 0; host < now.people.hosts; host++) {
                match.allow(one, host, lendingJoy(one, host));
            }
        }
        match.solve();
        return guest == NONE ? match.total() : match.columnOf(guest);
    }

    public int odds(int n, int k) throws IllegalArgumentException {
        needNumber(n, 0, 7);
        needNumber(k, 0, 8);
        long sum = 0;
        for (int some = k; some <= n; some++) {
            sum += choices(n, some) * power(100 - now.rain, some) * power(now.rain, n - some);
        }
        return (int) divide(WHOLE * sum, power(100, n));
    }

    public int waits(int n, int quarter) throws IndexOutOfBoundsException, IllegalArgumentException {
        needQuarter(quarter);
        needNumber(n, 0, 8);
        long some = power(100, n) - power(now.rain, n);
        // WHOLE is 100 to the second: so nothing grows beyond a long
        return (int) (n < 2 ? some * power(100, 2 - n) : divide(some, power(100, n - 2)));
    }

    public int treaty(int host, int other) throws IndexOutOfBoundsException, IllegalArgumentException {
        needHost(host);
        needHost(other);
        needTwo(host, other);
        int best = NONE;
        int greatest = NONE;
        for (int given = 0; given <= QUARTERS; given++) {
            int first = treatyJoy(host, given) - TREATY_LEAST;
            int second = treatyJoy(other, QUARTERS - given) - TREATY_LEAST;
            if (first >= 0 && second >= 0 && first * second > greatest) {
                greatest = first * second;
                best = given;
            }
        }
        return best;
    }

    public int rests(int host, int guest) throws IndexOutOfBoundsException {
        needHost(host);
        needGuest(guest);
        int set = 0;
        for (int looks = 0; looks <= 1; looks++) {
            for (int comes = 0; comes <= 1; comes++) {
                boolean gateStays = gateJoy(looks, comes) >= gateJoy(1 - looks, comes);
                boolean guestStays = comingJoy(host, guest, looks, comes) >= comingJoy(host, guest, looks, 1 - comes);
                if (gateStays && guestStays) {
                    set |= 1 << 2 * looks + comes;
                }
            }
        }
        return set;
    }

    public int dearest() {
        int best = NONE;
        for (int guest = 0; guest < now.people.guests; guest++) {
            if (best == NONE || now.people.likedOf(guest) > now.people.likedOf(best)) {
                best = guest;
            }
        }
        return best;
    }

    public int forlorn() {
        int set = 0;
        for (int host = 0; host < now.people.hosts; host++) {
            if (now.people.guests > 0 && !now.people.canMeetAny(host)) {
                set |= 1 << host;
            }
        }
        return set;
    }

    public int alike() {
        int sum = 0;
        for (int host = 0; host < now.people.hosts; host++) {
            for (int other = 0; other < host; other++) {
                if (now.people.areAlike(host, other)) {
                    sum++;
                }
            }
        }
        return sum;
    }

    public int settle(int host) throws IndexOutOfBoundsException {
        needHost(host);
        tried.take(now);
        tried.settlers = 0;
        for (int n = 1; n <= MOST_WEEKS; n++) {
            tried.passWeek(false);
            if (has(tried.settlers, host)) {
                return n;
            }
        }
        return NONE;
    }

    public int gladder(int n) throws IllegalArgumentException {
        needNumber(n, 0, MOST_WEEKS);
        goAhead(n);
        return tried.gladnessOfAll() - now.gladnessOfAll();
    }

    public int ahead(int host, int n, int what) throws IndexOutOfBoundsException, IllegalArgumentException, NoSuchElementException {
        needHost(host);
        needNumber(n, 0, MOST_WEEKS);
        if (what != 0 && what != 1) {
            throw new NoSuchElementException("nothing such is told of a host ahead");
        }
        goAhead(n);
        return get(what == 0 ? tried.gladness : tried.lonely, host);
    }

    public int trial(int n, boolean settled) throws IllegalArgumentException {
        needNumber(n, 0, MOST_WEEKS);
        tryWeeks(n, now.seed);
        return settled ? tried.settlers : tried.gladnessOfAll();
    }

    public int span(int n, boolean most) throws IllegalArgumentException {
        needNumber(n, 0, MOST_WEEKS);
        int best = NONE;
        for (int seed = 1; seed <= SEEDS; seed++) {
            tryWeeks(n, seed);
            int glad = tried.gladnessOfAll();
            if (best == NONE || (most ? glad > best : glad < best)) {
                best = glad;
            }
        }
        return best;
    }

    public int led(int host, boolean week) throws IndexOutOfBoundsException {
        needHost(host);
        return week ? now.log.latestWeekOf(host) : now.log.rowsOf(host);
    }

    public int log(int ago, int what) throws NoSuchElementException {
        if (what < 0 || what >= LOG_WIDTH) {
            throw new NoSuchElementException("a row of the log has no such number");
        }
        return now.log.hasRow(ago) ? now.log.number(ago, what) : NO_ROW;
    }

    public int seed(int n) {
        int before = now.seed;
        now.seed = n;
        return before;
    }

    public boolean undo() {
        return past.giveBack(now);
    }

    public void image() {
        kept.take(now);
        isKept = true;
    }

    public boolean back() {
        if (!isKept) {
            return false;
        }
        now.take(kept);
        past.forget();
        return true;
    }

    public int count(int what) {
        switch (what) {
            case 0:
                return now.people.hosts;
            case 1:
                return now.people.guests;
            case 2:
                return now.texts;
            case 3:
                return now.law.lines;
            case 4:
                return now.week;
            case 5:
                return now.rain;
            case 6:
                return now.must;
            case 7:
                return now.mustNot;
            case 8:
                return now.howManyBooked();
            case 9:
                return now.gladnessOfAll();
            case 10:
                return now.log.many;
            case 11:
                return past.many;
            default:
                return NONE;
        }
    }

    private void needHost(int host) throws IndexOutOfBoundsException {
        if (host < 0 || host >= now.people.hosts) {
            throw new IndexOutOfBoundsException("there is no such host");
        }
    }

    private void needGuest(int guest) throws IndexOutOfBoundsException {
        if (guest < 0 || guest >= now.people.guests) {
            throw new IndexOutOfBoundsException("there is no such guest");
        }
    }

    private static void needQuarter(int quarter) throws IndexOutOfBoundsException {
        if (quarter < 0 || quarter >= QUARTERS) {
            throw new IndexOutOfBoundsException("there is no such quarter");
        }
    }

    private void needMeeting(int host, int guest, int quarter) throws IndexOutOfBoundsException {
        needHost(host);
        needGuest(guest);
        needQuarter(quarter);
    }

    private static void needTwo(int host, int other) throws IllegalArgumentException {
        if (host == other) {
            throw new IllegalArgumentException("both are one");
        }
    }

    private static void needNumber(int n, int least, int greatest) throws IllegalArgumentException {
        if (n < least || n > greatest) {
            throw new IllegalArgumentException("that number is none");
        }
    }

    private int shareOf(int host) {
        return (int) divide(100L * get(now.gladness, host), now.gladnessOfAll());
    }

    /** The first QUARTER behind all of some GUESTS, whoever of them is the last; NONE, if they cannot be seen. */
    private int firstBehind(int host, int some) {
        int first = NONE;
        for (int last = 0; last < now.people.guests; last++) {
            int begin = has(some, last) ? get(behind, some & ~(1 << last)) : NONE;
            int end = begin == NONE ? NONE : now.people.endOfStay(host, last, begin);
            if (end != NONE && (first == NONE || end < first)) {
                first = end;
            }
        }
        return first;
    }

    private void hearRows() throws IllegalArgumentException {
        boolean right = gates.hear(tape);
        tape.empty();
        if (!right) {
            throw new IllegalArgumentException("those are no rows of marks and let in or not");
        }
    }

    private boolean isList() {
        int seen = 0;
        for (int i = 0; i < tape.length; i++) {
            int guest = get(tape.bytes, i);
            if (guest >= now.people.guests || has(seen, guest)) {
                return false;
            }
            seen |= 1 << guest;
        }
        return true;
    }

    /** How many pairs of the told GUESTS, which the bytes still hold, stand against the RANKS of a HOST. */
    private int wrongWayRound(int host, int told) {
        int sum = 0;
        for (int i = 0; i < told; i++) {
            int ahead = now.people.rankOf(host, get(tape.bytes, i), true);
            for (int j = i + 1; j < told; j++) {
                if (ahead < now.people.rankOf(host, get(tape.bytes, j), true)) {
                    sum++;
                }
            }
        }
        return sum;
    }

    private boolean isDryEnough(int set) {
        for (int host = 0; host < MOST; host++) {
            int quarters = get(wanted, host);
            if (quarters != 0 && (quarters & set) == 0) {
                return false;
            }
        }
        return true;
    }

    private int lendingJoy(int guest, int host) {
        boolean both = now.busyOf(guest) == 0 && now.seenBy(host) == 0 && now.people.mayMeet(host, guest);
        return both ? now.people.rankOf(host, guest, true) : 0;
    }

    private int treatyJoy(int host, int quarters) {
        int hours = Integer.bitCount(get(now.people.hostHours, host));
        int joy = (get(now.people.patience, host) + 1) * quarters;
        return quarters > hours ? joy - TREATY_FINE : joy;
    }

    /** What the gate has: it looks (0) or not (1) at one who tells the truth (0) or comes as another one (1). */
    private static int gateJoy(int looks, int comes) {
        if (looks == 0) {
            return comes == 1 ? 3 : -1;
        }
        return comes == 1 ? -2 : 0;
    }

    private int comingJoy(int host, int guest, int looks, int comes) {
        int rank = now.people.rankOf(host, guest, false);
        if (comes == 0) {
            return now.isMarked(guest) ? rank : 0;
        }
        return looks == 0 ? -3 : rank + 1;
    }

    private void goAhead(int n) {
        tried.take(now);
        for (int i = 0; i < n; i++) {
            tried.passWeek(false);
        }
    }

    private void tryWeeks(int n, int seed) {
        tried.take(now);
        tried.seed = seed;
        tried.settlers = 0;
        for (int i = 0; i < n; i++) {
            tried.passWeek(true);
        }
    }

    private static long power(long base, int n) {
        long product = 1;
        for (int i = 0; i < n; i++) {
            product *= base;
        }
        return product;
    }

    /** How many sets of k things there are of n. */
    private static long choices(int n, int k) {
        long many = 1;
        for (int i = 0; i < k; i++) {
            many = divide(many * (n - i), i + 1);
        }
        return many;
    }

    private static long divide(long a, long b) {
        return b == 0 ? 0 : a / b;
    }

    private static boolean has(int set, int one) {
        return one >= 0 && one < 32 && (set >>> one & 1) != 0;
    }

    private static int get(int[] row, int at) {
        return row != null && at >= 0 && at < row.length ? row[at] : 0;
    }

    private static void put(int[] row, int at, int number) {
        if (row != null && at >= 0 && at < row.length) {
            row[at] = number;
        }
    }

    private static void fill(int[] row, int number) {
        for (int i = 0; row != null && i < row.length; i++) {
            row[i] = number;
        }
    }

    private static void copy(int[] from, int[] to) {
        if (from != null && to != null) {
            System.arraycopy(from, 0, to, 0, Math.min(from.length, to.length));
        }
    }

    private static int[] firstOf(int[] row, int many) {
        int[] first = new int[row == null ? 0 : Math.max(0, Math.min(many, row.length))];
        copy(row, first);
        return first;
    }

    /** The TAPE, and, when it is read as a text, what stands in it. */
    private static final class Text {
        final int[] bytes = new int[TAPE_LENGTH];
        int length = 0;
        /** The first wrong byte of the latest text. */
        int wrong = NONE;
        /** Of each token what it is, where it begins, its length and its number (of a word: the letters a to f as bits). */
        private final int[] kinds = new int[TAPE_LENGTH + 1];
        private final int[] begins = new int[TAPE_LENGTH + 1];
        private final int[] sizes = new int[TAPE_LENGTH + 1];
        private final int[] numbers = new int[TAPE_LENGTH + 1];
        private int tokens;
        /** The token that comes next. */
        private int token;
        int kind;

        boolean hasRoomFor(int more) {
            return length + more <= TAPE_LENGTH;
        }

        void append(int four) {
            for (int shift = 24; shift >= 0; shift -= 8) {
                put(bytes, length, four >>> shift & 255);
                length++;
            }
        }

        boolean shorten(int n) {
            if (n < 0 || n > length) {
                return false;
            }
            length = n;
            return true;
        }

        void empty() {
            length = 0;
        }

        /** Parts the text and goes ahead of its first token. */
        void begin() {
            wrong = NONE;
            tokens = 0;
            for (int at = 0; at < length; at++) {
                int ahead = at == 0 ? ' ' : get(bytes, at - 1);
                int one = get(bytes, at);
                boolean goesOn = isLetter(ahead) && isLetter(one) || isFigure(ahead) && isFigure(one);
                if (one != ' ' && !goesOn) {
                    addToken(at, one);
                }
            }
            addEnd();
            token = 0;
            kind = get(kinds, 0);
        }

        private static boolean isLetter(int one) {
            return one >= 'a' && one <= 'z';
        }

        private static boolean isFigure(int one) {
            return one >= '0' && one <= '9';
        }

        /** Behind which letters, or figures, a word or a number ends that begins there. */
        private int behindOf(int begin, boolean letters) {
            int at = begin;
            while (at < length && (letters ? isLetter(get(bytes, at)) : isFigure(get(bytes, at)))) {
                at++;
            }
            return at;
        }

        private void addToken(int begin, int one) {
            boolean isLong = isLetter(one) || isFigure(one);
            int behind = isLong ? behindOf(begin, isLetter(one)) : begin + 1;
            put(begins, tokens, begin);
            put(sizes, tokens, behind - begin);
            if (isLetter(one)) {
                put(kinds, tokens, wordOf(begin, behind));
                put(numbers, tokens, markSet(begin, behind));
            } else if (isFigure(one)) {
                put(kinds, tokens, NUMBER);
                put(numbers, tokens, numberOf(begin, behind));
            } else {
                put(kinds, tokens, signOf(one));
                put(numbers, tokens, NONE);
            }
            tokens++;
        }

        private void addEnd() {
            put(kinds, tokens, END);
            put(begins, tokens, length);
            put(sizes, tokens, 0);
            put(numbers, tokens, NONE);
            tokens++;
        }

        private static int signOf(int one) {
            switch (one) {
                case ';':
                    return SEMICOLON;
                case '(':
                    return OPEN;
                case ')':
                    return CLOSE;
                case '<':
                    return LESS;
                case '>':
                    return MORE;
                case '+':
                    return PLUS;
                default:
                    return STRANGE;
            }
        }

        /** A number of 1 to 3 digits; NONE, if there are more. */
        private int numberOf(int begin, int behind) {
            int number = 0;
            for (int at = begin; at < behind && at < begin + 3; at++) {
                number = 10 * number + get(bytes, at) - '0';
            }
            return behind - begin > 3 ? NONE : number;
        }

        /** MARKS that a word tells; NONE, if it tells none or one twice. */
        private int markSet(int begin, int behind) {
            int set = 0;
            for (int at = begin; at < behind; at++) {
                int mark = get(bytes, at) - 'a';
                if (mark > 5 || has(set, mark)) {
                    return NONE;
                }
                set |= 1 << mark;
            }
            return set;
        }

        private boolean is(int begin, int behind, String word) {
            if (behind - begin != word.length()) {
                return false;
            }
            for (int i = 0; i < word.length(); i++) {
                if (get(bytes, begin + i) != word.charAt(i)) {
                    return false;
                }
            }
            return true;
        }

        private int wordOf(int begin, int behind) {
            if (is(begin, behind, "host")) return HOST;
            if (is(begin, behind, "guest")) return GUEST;
            if (is(begin, behind, "week")) return WEEK;
            if (is(begin, behind, "from")) return FROM;
            if (is(begin, behind, "to")) return TO;
            if (is(begin, behind, "patience")) return PATIENCE;
            if (is(begin, behind, "stay")) return STAY;
            if (is(begin, behind, "marks")) return MARKS;
            if (is(begin, behind, "likes")) return LIKES;
            if (is(begin, behind, "loves")) return LOVES;
            if (is(begin, behind, "rain")) return RAIN;
            if (is(begin, behind, "needs")) return NEEDS;
            if (is(begin, behind, "bars")) return BARS;
            return lawWordOf(begin, behind);
        }

        private int lawWordOf(int begin, int behind) {
            if (is(begin, behind, "if")) return IF;
            if (is(begin, behind, "or")) return OR;
            if (is(begin, behind, "and")) return AND;
            if (is(begin, behind, "not")) return NOT;
            if (is(begin, behind, "glad")) return GLAD;
            if (is(begin, behind, "sour")) return SOUR;
            if (is(begin, behind, "admit")) return ADMIT;
            if (is(begin, behind, "quarter")) return QUARTER;
            if (is(begin, behind, "lonely")) return LONELY;
            if (is(begin, behind, "rank")) return RANK;
            if (is(begin, behind, "loved")) return LOVED;
            if (is(begin, behind, "marked")) return MARKED;
            if (is(begin, behind, "expected")) return EXPECTED;
            return WORD;
        }

        void next() {
            int after = token + 1;
            if (after >= 0 && after < tokens && after < kinds.length) {
                token = after;
                kind = kinds[after];
            }
        }

        /** The token that comes next cannot stand there. */
        boolean refuse() {
            wrong = token >= 0 && token < begins.length ? begins[token] : length;
            return false;
        }

        boolean takes(int wanted) {
            if (kind != wanted) {
                return refuse();
            }
            next();
            return true;
        }

        /** The number that comes next; NONE, and the text is wrong, if it is none from low to high. */
        int number(int low, int high) {
            int number = get(numbers, token);
            if (kind != NUMBER || number < low || number > high) {
                refuse();
                return NONE;
            }
            next();
            return number;
        }

        /** MARKS that come next; NONE, and the text is wrong, if that is no word of such letters. */
        int letters() {
            int set = get(numbers, token);
            if (kind < WORD || set == NONE) {
                refuse();
                return NONE;
            }
            next();
            return set;
        }

        /** Where as many figures begin as are due; NONE, and the text is wrong, if there are not so many. */
        int figures(int many) {
            int found = kind == NUMBER ? get(sizes, token) : 0;
            int begin = get(begins, token);
            if (found != many) {
                refuse();
                return NONE;
            }
            if (many > 0) {
                next();
            }
            return begin;
        }
    }

    /** Reads a text of THE GROUND into a draft, so that of a wrong text nothing stays. */
    private static final class GroundReader {
        private final Text text;
        final State draft;

        GroundReader(Text text, State draft) {
            this.text = text;
            this.draft = draft;
        }

        boolean read(State now) {
            draft.take(now);
            text.begin();
            if (text.kind == END) {
                return true;
            }
            for (int line = 0; line < GROUND_LINES; line++) {
                if (!readLine()) {
                    return false;
                }
                if (text.kind == END) {
                    return true;
                }
                if (!text.takes(SEMICOLON)) {
                    return false;
                }
            }
            return text.refuse();
        }

        private boolean readLine() {
            switch (text.kind) {
                case HOST:
                    return draft.people.hosts < MOST ? readHost() : text.refuse();
                case GUEST:
                    return draft.people.guests < MOST ? readGuest() : text.refuse();
                case LIKES:
                    return readRanks(true);
                case LOVES:
                    return readRanks(false);
                case RAIN:
                case WEEK:
                    return readNumber(text.kind);
                case NEEDS:
                case BARS:
                    return readGate(text.kind);
                default:
                    return text.refuse();
            }
        }

        private boolean readHost() {
            text.next();
            if (!text.takes(PATIENCE)) {
                return false;
            }
            int patience = text.number(0, 9);
            int hours = patience == NONE ? NONE : readHours();
            if (hours == NONE) {
                return false;
            }
            draft.people.addHost(patience, hours);
            return true;
        }

        private boolean readGuest() {
            text.next();
            if (!text.takes(STAY)) {
                return false;
            }
            int stay = text.number(1, 4);
            int hours = stay == NONE ? NONE : readHours();
            if (hours == NONE) {
                return false;
            }
            int marks = 0;
            if (text.kind == MARKS) {
                text.next();
                marks = text.letters();
            }
            if (marks == NONE) {
                return false;
            }
            draft.people.addGuest(stay, hours, marks);
            return true;
        }

        /** from N to N, as bits; NONE, if it is wrong. */
        private int readHours() {
            if (!text.takes(FROM)) {
                return NONE;
            }
            int from = text.number(0, QUARTERS - 1);
            if (from == NONE || !text.takes(TO)) {
                return NONE;
            }
            int to = text.number(from, QUARTERS - 1);
            return to == NONE ? NONE : (1 << to + 1) - (1 << from);
        }

        private boolean readRanks(boolean by) {
            text.next();
            int one = text.number(0, (by ? draft.people.hosts : draft.people.guests) - 1);
            if (one == NONE) {
                return false;
            }
            int many = by ? draft.people.guests : draft.people.hosts;
            int begin = text.figures(many);
            if (begin == NONE) {
                return false;
            }
            for (int i = 0; i < many; i++) {
                int rank = get(text.bytes, begin + i) - '0';
                draft.people.tellRank(by ? one : i, by ? i : one, by, rank);
            }
            return true;
        }

        private boolean readNumber(int word) {
            text.next();
            int number = text.number(0, word == RAIN ? 100 : 999);
            if (number == NONE) {
                return false;
            }
            if (word == RAIN) {
                draft.rain = number;
            } else {
                draft.week = number;
            }
            return true;
        }

        private boolean readGate(int word) {
            text.next();
            int marks = text.letters();
            if (marks == NONE) {
                return false;
            }
            if (word == NEEDS) {
                draft.must = marks;
            } else {
                draft.mustNot = marks;
            }
            return true;
        }
    }

    /** Reads a text of THE LAW and writes its conditions so that what is joined comes ahead of what joins it. */
    private static final class LawReader {
        private final Text text;
        private int lines;
        private final int[] kinds = new int[LAW_LINES];
        private final int[] amounts = new int[LAW_LINES];
        private final int[] ends = new int[LAW_LINES];
        private final int[] code = new int[TAPE_LENGTH];
        private int size;

        LawReader(Text text) {
            this.text = text;
        }

        Law written() {
            return new Law(lines, firstOf(kinds, lines), firstOf(amounts, lines), firstOf(ends, lines), firstOf(code, size));
        }

        boolean read() {
            lines = 0;
            size = 0;
            text.begin();
            if (text.kind == END) {
                return true;
            }
            for (int line = 0; line < LAW_LINES; line++) {
                if (!readLine()) {
                    return false;
                }
                if (text.kind == END) {
                    return true;
                }
                if (!text.takes(SEMICOLON)) {
                    return false;
                }
            }
            return text.refuse();
        }

        private boolean readLine() {
            int kind = text.kind;
            if (kind != GLAD && kind != SOUR && kind != ADMIT) {
                return text.refuse();
            }
            text.next();
            int amount = kind == ADMIT ? 0 : text.number(0, 99);
            if (amount == NONE) {
                return false;
            }
            if (text.kind == IF) {
                text.next();
                if (!readCondition(0)) {
                    return false;
                }
            }
            put(kinds, lines, kind);
            put(amounts, lines, amount);
            put(ends, lines, size);
            lines++;
            return true;
        }

        private void write(int word) {
            put(code, size, word);
            size++;
        }

        /** C, within so many ( and not. */
        private boolean readCondition(int depth) {
            boolean isFirstAtom = true;
            boolean isFirstAll = true;
            for (int i = 0; i < TAPE_LENGTH; i++) {
                if (!readAtom(depth)) {
                    return false;
                }
                writeUnless(isFirstAtom, AND);
                isFirstAtom = text.kind != AND;
                if (isFirstAtom) {
                    writeUnless(isFirstAll, OR);
                    isFirstAll = false;
                    if (text.kind != OR) {
                        return true;
                    }
                }
                text.next();
            }
            return text.refuse();
        }

        private void writeUnless(boolean first, int word) {
            if (!first) {
                write(-word);
            }
        }

        private boolean readAtom(int depth) {
            int deep = depth;
            while (text.kind == NOT && deep < DEEPEST) {
                text.next();
                deep++;
            }
            int kind = text.kind;
            boolean right;
            if (kind == OPEN && deep < DEEPEST) {
                text.next();
                right = readCondition(deep + 1) && text.takes(CLOSE);
            } else if (kind == MARKED || kind == EXPECTED) {
                text.next();
                write(-kind);
                right = true;
            } else {
                right = readSum();
                int sign = text.kind == MORE ? MORE : LESS;
                right = right && text.takes(sign) && readSum();
                write(-sign);
            }
            for (int not = depth; not < deep; not++) {
                write(-NOT);
            }
            return right;
        }

        private boolean readSum() {
            for (int i = 0; i < TAPE_LENGTH; i++) {
                if (text.kind >= HOST && text.kind <= WEEK) {
                    write(-text.kind);
                    text.next();
                } else {
                    int number = text.number(0, 999);
                    if (number == NONE) {
                        return false;
                    }
                    write(number);
                }
                if (i > 0) {
                    write(-PLUS);
                }
                if (text.kind != PLUS) {
                    return true;
                }
                text.next();
            }
            return text.refuse();
        }
    }

    /** THE LAW; it never changes once it is written, so that all that remembers it can share it. */
    private static final class Law {
        final int lines;
        private final int[] kinds;
        private final int[] amounts;
        /** Where the condition of each LINE ends in the code: a number, or less than 0, a word or a sign. */
        private final int[] ends;
        private final int[] code;
        private final int[] stack = new int[TABLE];

        Law(int lines, int[] kinds, int[] amounts, int[] ends, int[] code) {
            this.lines = lines;
            this.kinds = kinds;
            this.amounts = amounts;
            this.ends = ends;
            this.code = code;
        }

        boolean admits(int[] facts) {
            boolean without = true;
            for (int line = 0; line < lines; line++) {
                if (get(kinds, line) == ADMIT) {
                    without = false;
                    if (holds(line, facts)) {
                        return true;
                    }
                }
            }
            return without && get(facts, MARKED - HOST) != 0;
        }

        /** What all glad LINES that hold add, less what the sour ones take. */
        int gladness(int[] facts) {
            int sum = 0;
            for (int line = 0; line < lines; line++) {
                int kind = get(kinds, line);
                if (kind != ADMIT && holds(line, facts)) {
                    sum += kind == GLAD ? get(amounts, line) : -get(amounts, line);
                }
            }
            return sum;
        }

        private boolean holds(int line, int[] facts) {
            int from = line == 0 ? 0 : get(ends, line - 1);
            int to = get(ends, line);
            int top = 0;
            for (int i = from; i < to; i++) {
                int word = get(code, i);
                if (word == -NOT) {
                    put(stack, top - 1, 1 - get(stack, top - 1));
                } else if (word >= 0 || word <= -HOST && word >= -EXPECTED) {
                    put(stack, top, word >= 0 ? word : get(facts, -word - HOST));
                    top++;
                } else {
                    top--;
                    put(stack, top - 1, joined(-word, get(stack, top - 1), get(stack, top)));
                }
            }
            return from == to || get(stack, 0) != 0;
        }

        private static int joined(int word, int left, int right) {
            switch (word) {
                case PLUS:
                    return left + right;
                case LESS:
                    return left < right ? 1 : 0;
                case MORE:
                    return left > right ? 1 : 0;
                case AND:
                    return left & right;
                default:
                    return left | right;
            }
        }
    }

    /** THE LOG: rows in a ring, the latest at newest. */
    private static final class Log {
        int many = 0;
        private int newest = 0;
        private final int[] numbers = new int[LOG_ROWS * LOG_WIDTH];

        void take(Log from) {
            many = from.many;
            newest = from.newest;
            copy(from.numbers, numbers);
        }

        void add(int week, int host, int guest, int quarter, int kind, int joy) {
            newest = newest + 1 < LOG_ROWS ? newest + 1 : 0;
            many = many < LOG_ROWS ? many + 1 : LOG_ROWS;
            int at = LOG_WIDTH * newest;
            put(numbers, at, week);
            put(numbers, at + 1, host);
            put(numbers, at + 2, guest);
            put(numbers, at + 3, quarter);
            put(numbers, at + 4, kind);
            put(numbers, at + 5, joy);
        }

        boolean hasRow(int ago) {
            return ago >= 0 && ago < many;
        }

        int number(int ago, int what) {
            int row = newest >= ago ? newest - ago : newest - ago + LOG_ROWS;
            return get(numbers, LOG_WIDTH * row + what);
        }

        int rowsOf(int host) {
            int sum = 0;
            for (int ago = 0; ago < many; ago++) {
                if (number(ago, 1) == host) {
                    sum++;
                }
            }
            return sum;
        }

        int latestWeekOf(int host) {
            for (int ago = 0; ago < many; ago++) {
                if (number(ago, 1) == host) {
                    return number(ago, 0);
                }
            }
            return NONE;
        }
    }

    /** HOSTS and GUESTS as they are told; tables have a row for each HOST. */
    private static final class People {
        int hosts = 0;
        int guests = 0;
        final int[] patience = new int[MOST];
        final int[] hostHours = new int[MOST];
        final int[] stay = new int[MOST];
        final int[] guestHours = new int[MOST];
        final int[] marks = new int[MOST];
        private final int[] byHost = new int[TABLE];
        private final int[] byGuest = new int[TABLE];

        People() {
            // RANKS of those who are not there yet are never told: they stay as they are at first
            for (int i = 0; i < byHost.length && i < byGuest.length; i++) {
                byHost[i] = FIRST_RANK;
                byGuest[i] = FIRST_RANK;
            }
        }

        void take(People from) {
            hosts = from.hosts;
            guests = from.guests;
            copy(from.patience, patience);
            copy(from.hostHours, hostHours);
            copy(from.stay, stay);
            copy(from.guestHours, guestHours);
            copy(from.marks, marks);
            copy(from.byHost, byHost);
            copy(from.byGuest, byGuest);
        }

        void addHost(int patienceOfIt, int hours) {
            put(patience, hosts, patienceOfIt);
            put(hostHours, hosts, hours);
            hosts++;
        }

        void addGuest(int stayOfIt, int hours, int marksOfIt) {
            put(stay, guests, stayOfIt);
            put(guestHours, guests, hours);
            put(marks, guests, marksOfIt);
            guests++;
        }

        /** RANK of the GUEST by the HOST (by), or of the HOST by the GUEST. */
        int rankOf(int host, int guest, boolean by) {
            return get(by ? byHost : byGuest, MOST * host + guest);
        }

        void tellRank(int host, int guest, boolean by, int rank) {
            put(by ? byHost : byGuest, MOST * host + guest, rank);
        }

        /** Neither RANK is 0. */
        boolean mayMeet(int host, int guest) {
            return rankOf(host, guest, true) != 0 && rankOf(host, guest, false) != 0;
        }

        boolean canMeet(int host, int guest, int quarter) {
            return has(get(hostHours, host) & get(guestHours, guest), quarter) && mayMeet(host, guest);
        }

        boolean canMeetAny(int host) {
            for (int guest = 0; guest < guests; guest++) {
                if ((get(hostHours, host) & get(guestHours, guest)) != 0 && mayMeet(host, guest)) {
                    return true;
                }
            }
            return false;
        }

        /** Behind which QUARTER a STAY ends that begins as early as it can, from begin on; NONE without. */
        int endOfStay(int host, int guest, int begin) {
            int hours = get(hostHours, host) & get(guestHours, guest);
            int needed = (1 << get(stay, guest)) - 1;
            for (int first = begin; first < QUARTERS && mayMeet(host, guest); first++) {
                if ((hours >>> first & needed) == needed) {
                    return first + get(stay, guest);
                }
            }
            return NONE;
        }

        int likedOf(int guest) {
            int sum = 0;
            for (int host = 0; host < hosts; host++) {
                sum += rankOf(host, guest, true);
            }
            return sum;
        }

        boolean areAlike(int host, int other) {
            for (int guest = 0; guest < guests; guest++) {
                if (rankOf(host, guest, true) != rankOf(other, guest, true)) {
                    return false;
                }
            }
            return get(hostHours, host) == get(hostHours, other);
        }
    }

    /** All that an ACT may change, and what lasts beside it. */
    private static final class State {
        final People people = new People();
        final Log log = new Log();
        Law law;
        int texts = 0;
        int rain = 0;
        int week = 0;
        int must = 0;
        int mustNot = 0;
        int seed = 1;
        /** HOSTS that SETTLED since this was emptied. */
        int settlers = 0;
        final int[] gladness = new int[MOST];
        final int[] lonely = new int[MOST];
        /** The GUEST that is BOOKED: a row for each HOST, a column for each QUARTER. */
        private final int[] list = new int[TABLE];
        private final int[] facts = new int[FACTS];

        State(Law law) {
            this.law = law;
            for (int i = 0; i < list.length; i++) {
                list[i] = NONE;
            }
        }

        void take(State from) {
            people.take(from.people);
            log.take(from.log);
            law = from.law;
            texts = from.texts;
            rain = from.rain;
            week = from.week;
            must = from.must;
            mustNot = from.mustNot;
            seed = from.seed;
            copy(from.gladness, gladness);
            copy(from.lonely, lonely);
            copy(from.list, list);
        }

        int guestAt(int host, int quarter) {
            return get(list, QUARTERS * host + quarter);
        }

        void enter(int host, int quarter, int guest) {
            put(list, QUARTERS * host + quarter, guest);
        }

        int howManyBooked() {
            int sum = 0;
            for (int i = 0; i < TABLE; i++) {
                if (get(list, i) != NONE) {
                    sum++;
                }
            }
            return sum;
        }

        int freeOf(int host) {
            int set = get(people.hostHours, host);
            for (int quarter = 0; quarter < QUARTERS; quarter++) {
                if (guestAt(host, quarter) != NONE) {
                    set &= ~(1 << quarter);
                }
            }
            return set;
        }

        int seenBy(int host) {
            int set = 0;
            for (int quarter = 0; quarter < QUARTERS; quarter++) {
                int guest = guestAt(host, quarter);
                if (guest != NONE) {
                    set |= 1 << guest;
                }
            }
            return set;
        }

        int busyOf(int guest) {
            int set = 0;
            for (int host = 0; host < people.hosts; host++) {
                for (int quarter = 0; quarter < QUARTERS; quarter++) {
                    if (guestAt(host, quarter) == guest) {
                        set |= 1 << quarter;
                    }
                }
            }
            return set;
        }

        int gladnessOfAll() {
            int sum = 0;
            for (int host = 0; host < people.hosts; host++) {
                sum += get(gladness, host);
            }
            return sum;
        }

        boolean isMarked(int guest) {
            int marks = get(people.marks, guest);
            return (marks & must) == must && (marks & mustNot) == 0;
        }

        private int[] factsOf(int host, int guest, int quarter) {
            put(facts, 0, host);
            put(facts, GUEST - HOST, guest);
            put(facts, QUARTER - HOST, quarter);
            put(facts, LONELY - HOST, get(lonely, host));
            put(facts, RANK - HOST, people.rankOf(host, guest, true));
            put(facts, LOVED - HOST, people.rankOf(host, guest, false));
            put(facts, WEEK - HOST, week);
            put(facts, MARKED - HOST, isMarked(guest) ? 1 : 0);
            put(facts, EXPECTED - HOST, guestAt(host, quarter) == guest ? 1 : 0);
            return facts;
        }

        boolean isLetIn(int host, int guest, int quarter) {
            return law.admits(factsOf(host, guest, quarter));
        }

        int joyOf(int host, int guest, int quarter) {
            int joy = people.rankOf(host, guest, true) + law.gladness(factsOf(host, guest, quarter));
            return joy < 0 ? 0 : joy;
        }

        boolean meetsAt(int host, int quarter) {
            int guest = guestAt(host, quarter);
            return guest != NONE && people.canMeet(host, guest, quarter) && isLetIn(host, guest, quarter);
        }

        int meetingQuarters(int host) {
            int set = 0;
            for (int quarter = 0; quarter < QUARTERS; quarter++) {
                if (meetsAt(host, quarter)) {
                    set |= 1 << quarter;
                }
            }
            return set;
        }

        /** A WEEK more: how many MET. */
        int passWeek(boolean rains) {
            int met = 0;
            int seen = 0;
            for (int quarter = 0; quarter < QUARTERS; quarter++) {
                boolean wet = rains && draw() % 100 < rain;
                for (int host = 0; host < people.hosts && !wet; host++) {
                    if (meetsAt(host, quarter)) {
                        meet(host, quarter);
                        met++;
                        seen |= 1 << host;
                    }
                }
            }
            endWeek(seen);
            return met;
        }

        private int draw() {
            seed = 1103515245 * seed + 12345;
            return seed >>> 16 & 32767;
        }

        private void meet(int host, int quarter) {
            int guest = guestAt(host, quarter);
            int joy = joyOf(host, guest, quarter);
            put(gladness, host, Math.min(get(gladness, host) + joy, MOST_GLADNESS));
            log.add(week, host, guest, quarter, MEETING, joy);
        }

        private void endWeek(int seen) {
            for (int host = 0; host < people.hosts; host++) {
                put(lonely, host, has(seen, host) ? 0 : Math.min(get(lonely, host) + 1, MOST_LONELY));
                if (get(lonely, host) > get(people.patience, host)) {
                    strikeAll(host);
                }
            }
            week = Math.min(week + 1, MOST_WEEK);
        }

        /** The HOST SETTLES. */
        private void strikeAll(int host) {
            for (int quarter = 0; quarter < QUARTERS; quarter++) {
                enter(host, quarter, NONE);
            }
            put(lonely, host, 0);
            settlers |= 1 << host;
            log.add(week, host, NONE, NONE, SETTLED, 0);
        }
    }

    /** How all was ahead of the latest ACTS, in a ring. */
    private static final class Past {
        private final State[] states = new State[REMEMBERED];
        int many = 0;
        /** Where the next one is kept. */
        private int next = 0;

        Past(Law law) {
            for (int i = 0; i < states.length; i++) {
                states[i] = new State(law);
            }
        }

        void keep(State now) {
            State place = placeAt(next);
            if (place != null) {
                place.take(now);
            }
            next = next + 1 < REMEMBERED ? next + 1 : 0;
            many = many < REMEMBERED ? many + 1 : REMEMBERED;
        }

        boolean giveBack(State now) {
            if (many == 0) {
                return false;
            }
            next = next > 0 ? next - 1 : REMEMBERED - 1;
            many--;
            State place = placeAt(next);
            if (place != null) {
                now.take(place);
            }
            return true;
        }

        void forget() {
            many = 0;
        }

        private State placeAt(int at) {
            return at >= 0 && at < states.length ? states[at] : null;
        }
    }

    /** PAIRS: HOSTS and GUESTS put together, one with one. */
    private static final class Pairs {
        private int hosts;
        private int guests;
        /** How gladly each HOST has each GUEST (a row for each HOST), greater ones rather, 0 never; none are like. */
        private final int[] wish = new int[TABLE];
        /** How gladly each GUEST has each HOST (a row for each GUEST). */
        private final int[] love = new int[TABLE];
        /** With whom each HOST is. */
        final int[] mate = new int[MOST];
        /** With whom each GUEST is. */
        private final int[] mateOfGuest = new int[MOST];
        /** How gladly each one who asks had the one that it asked last. */
        private final int[] asked = new int[MOST];
        private final int[] hostBests = new int[MOST];
        private final int[] guestBests = new int[MOST];

        void learn(People people) {
            hosts = people.hosts;
            guests = people.guests;
            fill(wish, 0);
            fill(love, 0);
            for (int host = 0; host < hosts; host++) {
                for (int guest = 0; guest < guests; guest++) {
                    if (people.mayMeet(host, guest)) {
                        // of like RANKS the lesser number is the one that is had rather
                        put(wish, MOST * host + guest, MOST * people.rankOf(host, guest, true) + MOST - 1 - guest);
                        put(love, MOST * guest + host, MOST * people.rankOf(host, guest, false) + MOST - 1 - host);
                    }
                }
            }
        }

        void askByHosts() {
            ask(wish, love, mate, mateOfGuest);
        }

        void askByGuests() {
            ask(love, wish, mateOfGuest, mate);
        }

        /** Each one who asks goes down its wishes; who is asked stays with the one that it would rather. */
        private void ask(int[] wishes, int[] answers, int[] asking, int[] answering) {
            fill(asking, NONE);
            fill(answering, NONE);
            fill(asked, ABOVE_WISHES);
            boolean some = true;
            for (int round = 0; round < TABLE && some; round++) {
                some = false;
                for (int one = 0; one < MOST; one++) {
                    int other = get(asking, one) == NONE ? nextWish(wishes, one) : NONE;
                    if (other != NONE) {
                        some = true;
                        answer(answers, asking, answering, one, other);
                    }
                }
            }
        }

        /** Whom one asks next; NONE without. */
        private int nextWish(int[] wishes, int one) {
            int best = NONE;
            int gladly = 0;
            for (int other = 0; other < MOST; other++) {
                int wished = get(wishes, MOST * one + other);
                if (wished > gladly && wished < get(asked, one)) {
                    best = other;
                    gladly = wished;
                }
            }
            put(asked, one, gladly);
            return best;
        }

        private static void answer(int[] answers, int[] asking, int[] answering, int one, int other) {
            int before = get(answering, other);
            int gladly = before == NONE ? 0 : get(answers, MOST * other + before);
            if (get(answers, MOST * other + one) > gladly) {
                if (before != NONE) {
                    put(asking, before, NONE);
                }
                put(asking, one, other);
                put(answering, other, one);
            }
        }

        /** Hears with whom each HOST is; false, if the TAPE does not tell that. */
        boolean hear(Text tape) {
            if (tape.length != hosts) {
                return false;
            }
            for (int host = 0; host < hosts; host++) {
                int guest = get(tape.bytes, host);
                if (guest >= guests && guest != NOBODY) {
                    return false;
                }
                put(mate, host, guest == NOBODY ? NONE : guest);
            }
            return true;
        }

        /** No GUEST is told twice, and no RANK of a pair is 0. */
        boolean mayBe() {
            int seen = 0;
            for (int host = 0; host < hosts; host++) {
                int guest = get(mate, host);
                if (guest != NONE && (has(seen, guest) || get(wish, MOST * host + guest) == 0)) {
                    return false;
                }
                seen |= guest == NONE ? 0 : 1 << guest;
            }
            return true;
        }

        /** How many HOSTS and GUESTS would both rather. */
        int rivals() {
            fill(mateOfGuest, NONE);
            for (int host = 0; host < hosts; host++) {
                if (get(mate, host) != NONE) {
                    put(mateOfGuest, get(mate, host), host);
                }
            }
            int sum = 0;
            for (int host = 0; host < hosts; host++) {
                for (int guest = 0; guest < guests; guest++) {
                    if (wouldBoth(host, guest, get(mate, host), get(mateOfGuest, guest))) {
                        sum++;
                    }
                }
            }
            return sum;
        }

        private boolean wouldBoth(int host, int guest, int ofHost, int ofGuest) {
            int hasWish = ofHost == NONE ? 0 : get(wish, MOST * host + ofHost);
            int hasLove = ofGuest == NONE ? 0 : get(love, MOST * guest + ofGuest);
            return get(wish, MOST * host + guest) > hasWish && get(love, MOST * guest + host) > hasLove;
        }

        /** WAYS: in each of them each HOST has a GUEST between its best and its worst one, or has none in all. */
        int calmWays() {
            askByGuests();
            copy(mate, guestBests);
            askByHosts();
            copy(mate, hostBests);
            fill(mate, NONE);
            return waysFrom(0, 0);
        }

        /** How many WAYS there are, if HOSTS ahead of this one have the GUESTS in used. */
        private int waysFrom(int host, int used) {
            if (host >= hosts || host >= MOST) {
                return rivals() == 0 ? 1 : 0;
            }
            int sum = 0;
            for (int guest = NONE; guest < guests; guest++) {
                if (mayHave(host, guest, used)) {
                    sum += waysWith(host, guest, used);
                }
            }
            return sum;
        }

        /** The GUEST is not used and stands between the best and the worst one of the HOST; or both are none. */
        private boolean mayHave(int host, int guest, int used) {
            int best = get(hostBests, host);
            if (best == NONE || guest == NONE) {
                return best == guest;
            }
            int wished = get(wish, MOST * host + guest);
            int most = get(wish, MOST * host + best);
            int least = get(wish, MOST * host + get(guestBests, host));
            return wished >= least && wished <= most && !has(used, guest);
        }

        private int waysWith(int host, int guest, int used) {
            put(mate, host, guest);
            if (!isCalmSoFar(host)) {
                return 0;
            }
            return waysFrom(host + 1, guest == NONE ? used : used | 1 << guest);
        }

        /** Neither this HOST and a GUEST of one ahead of it nor the other way round would both rather. */
        private boolean isCalmSoFar(int host) {
            int own = get(mate, host);
            for (int one = 0; one < host; one++) {
                int guest = get(mate, one);
                boolean both = own != NONE && guest != NONE;
                if (both && (wouldBoth(host, guest, own, one) || wouldBoth(one, own, guest, host))) {
                    return false;
                }
            }
            return true;
        }
    }

    /** Rows put to columns, each to another one, so that what is gained together is the most. */
    private static final class Match {
        private int rows;
        private int columns;
        /** What a row gains by a column; 0: it cannot be put there. */
        private final int[] gains = new int[TABLE];
        /** The most that the rows from one on gain, if a set of columns is taken. */
        private final int[] most = new int[(MOST + 1) * SETS];

        void begin(int manyRows, int manyColumns) {
            rows = manyRows;
            columns = manyColumns;
            fill(gains, 0);
        }

        void allow(int row, int column, int gain) {
            put(gains, MOST * row + column, gain);
        }

        void solve() {
            for (int taken = 0; taken < 1 << columns; taken++) {
                put(most, SETS * rows + taken, 0);
            }
            for (int row = rows - 1; row >= 0; row--) {
                for (int taken = 0; taken < 1 << columns; taken++) {
                    // more than one column a row ahead is never taken
                    if (Integer.bitCount(taken) <= row) {
                        put(most, SETS * row + taken, mostFrom(row, taken));
                    }
                }
            }
        }

        private int mostFrom(int row, int taken) {
            int best = get(most, SETS * (row + 1) + taken);
            for (int column = 0; column < columns; column++) {
                best = Math.max(best, gainBy(row, column, taken));
            }
            return best;
        }

        /** What rows from this one on gain, if it is put to this column; NONE, if it cannot be. */
        private int gainBy(int row, int column, int taken) {
            int gain = get(gains, MOST * row + column);
            return gain == 0 || has(taken, column) ? NONE : gain + get(most, SETS * (row + 1) + (taken | 1 << column));
        }

        int total() {
            return get(most, 0);
        }

        /** To which column a row is put in the first best way; NONE. */
        int columnOf(int row) {
            int taken = 0;
            int column = NONE;
            for (int one = 0; one <= row && one < rows; one++) {
                column = firstColumn(one, taken);
                taken |= column == NONE ? 0 : 1 << column;
            }
            return column;
        }

        private int firstColumn(int row, int taken) {
            int best = get(most, SETS * row + taken);
            if (get(most, SETS * (row + 1) + taken) == best) {
                return NONE;
            }
            for (int column = 0; column < columns; column++) {
                if (gainBy(row, column, taken) == best) {
                    return column;
                }
            }
            return NONE;
        }
    }

    /** RULES: the gates that fit who was let in. */
    private static final class Gates {
        int many = 0;
        private final int[] musts = new int[GATES];
        private final int[] nots = new int[GATES];

        /** Hears who was let in; false, if the TAPE does not tell that. */
        boolean hear(Text tape) {
            if (tape.length % 2 != 0 || tape.length > RULE_BYTES) {
                return false;
            }
            for (int i = 0; i + 1 < tape.length; i += 2) {
                if (get(tape.bytes, i) > ALL_MARKS || get(tape.bytes, i + 1) > 1) {
                    return false;
                }
            }
            many = 0;
            for (int must = 0; must <= ALL_MARKS; must++) {
                for (int not = 0; not <= ALL_MARKS; not++) {
                    if ((must & not) == 0 && fits(must, not, tape)) {
                        put(musts, many, must);
                        put(nots, many, not);
                        many++;
                    }
                }
            }
            return true;
        }

        private static boolean passes(int marks, int must, int not) {
            return (marks & must) == must && (marks & not) == 0;
        }

        private static boolean fits(int must, int not, Text tape) {
            for (int i = 0; i + 1 < tape.length; i += 2) {
                if (passes(get(tape.bytes, i), must, not) != (get(tape.bytes, i + 1) == 1)) {
                    return false;
                }
            }
            return true;
        }

        int plainest() {
            int fewest = NONE;
            for (int i = 0; i < many; i++) {
                int marks = Integer.bitCount(get(musts, i)) + Integer.bitCount(get(nots, i));
                if (fewest == NONE || marks < fewest) {
                    fewest = marks;
                }
            }
            return fewest;
        }

        /** SEND. */
        int parting() {
            int best = NONE;
            int least = 0;
            for (int marks = 0; marks <= ALL_MARKS && many >= 2; marks++) {
                int in = 0;
                for (int i = 0; i < many; i++) {
                    if (passes(marks, get(musts, i), get(nots, i))) {
                        in++;
                    }
                }
                int greater = Math.max(in, many - in);
                if (best == NONE || greater < least) {
                    best = marks;
                    least = greater;
                }
            }
            return best;
        }
    }
}
