import java.math.BigInteger;
import java.util.ArrayDeque;
import java.util.ArrayList;
import java.util.Arrays;
import java.util.Deque;
import java.util.HashSet;
import java.util.List;
import java.util.NoSuchElementException;
import java.util.Set;

/** The document told once more in its plainest form, by trying all ways there are: what the program is held against. */
final class Model {
    static final int NONE = -1;

    static final class Host {
        int patience, hours, gladness, lonely;
        Integer[] list = new Integer[8];

        Host copy() {
            Host h = new Host();
            h.patience = patience;
            h.hours = hours;
            h.gladness = gladness;
            h.lonely = lonely;
            h.list = list.clone();
            return h;
        }
    }

    static final class Guest {
        int stay, hours, marks;

        Guest copy() {
            Guest g = new Guest();
            g.stay = stay;
            g.hours = hours;
            g.marks = marks;
            return g;
        }
    }

    interface Condition {
        boolean holds(World w, int h, int g, int q);
    }

    interface Amount {
        int of(World w, int h, int g, int q);
    }

    static final class LawLine {
        String kind;
        int amount;
        Condition condition;
    }

    /** All but the TAPE, fault() and THE IMAGE. */
    static final class World {
        List<Host> hosts = new ArrayList<>();
        List<Guest> guests = new ArrayList<>();
        int[][] byHost = new int[8][8];
        int[][] byGuest = new int[8][8];
        int texts, rain, week, must, not, seed = 1;
        List<LawLine> law = null;
        List<int[]> log = new ArrayList<>();

        World() {
            for (int i = 0; i < 8; i++) {
                Arrays.fill(byHost[i], 5);
                Arrays.fill(byGuest[i], 5);
            }
        }

        World copy() {
            World w = new World();
            for (Host h : hosts) w.hosts.add(h.copy());
            for (Guest g : guests) w.guests.add(g.copy());
            for (int i = 0; i < 8; i++) {
                w.byHost[i] = byHost[i].clone();
                w.byGuest[i] = byGuest[i].clone();
            }
            w.texts = texts;
            w.rain = rain;
            w.week = week;
            w.must = must;
            w.not = not;
            w.seed = seed;
            w.law = law;
            w.log = new ArrayList<>(log);
            return w;
        }

        boolean can(int h, int g, int q) {
            return (hosts.get(h).hours & 1 << q) != 0 && (guests.get(g).hours & 1 << q) != 0
                && byHost[h][g] > 0 && byGuest[g][h] > 0;
        }

        boolean marked(int g) {
            for (int m = 0; m < 6; m++) {
                boolean has = (guests.get(g).marks >> m & 1) == 1;
                if ((must >> m & 1) == 1 && !has) return false;
                if ((not >> m & 1) == 1 && has) return false;
            }
            return true;
        }

        boolean letIn(int h, int g, int q) {
            boolean admits = false;
            if (law != null) {
                for (LawLine line : law) {
                    if (line.kind.equals("admit")) {
                        admits = true;
                        if (line.condition == null || line.condition.holds(this, h, g, q)) return true;
                    }
                }
            }
            return !admits && marked(g);
        }

        int joy(int h, int g, int q) {
            int sum = byHost[h][g];
            if (law != null) {
                for (LawLine line : law) {
                    if (line.condition == null || line.condition.holds(this, h, g, q)) {
                        if (line.kind.equals("glad")) sum += line.amount;
                        if (line.kind.equals("sour")) sum -= line.amount;
                    }
                }
            }
            return Math.max(0, sum);
        }

        boolean meets(int h, int q) {
            Integer g = hosts.get(h).list[q];
            return g != null && can(h, g, q) && letIn(h, g, q);
        }

        int weekMore(boolean rains, Set<Integer> settled) {
            Set<Integer> met = new HashSet<>();
            int many = 0;
            for (int q = 0; q < 8; q++) {
                if (rains) {
                    seed = (int) (1103515245L * seed + 12345L);
                    int draw = (int) ((seed & 0xffffffffL) >> 16 & 0x7fff);
                    if (draw % 100 < rain) continue;
                }
                for (int h = 0; h < hosts.size(); h++) {
                    if (!meets(h, q)) continue;
                    int g = hosts.get(h).list[q];
                    int joy = joy(h, g, q);
                    hosts.get(h).gladness = Math.min(999, hosts.get(h).gladness + joy);
                    log.add(0, new int[] {week, h, g, q, 0, joy});
                    met.add(h);
                    many++;
                }
            }
            for (int h = 0; h < hosts.size(); h++) {
                Host host = hosts.get(h);
                host.lonely = met.contains(h) ? 0 : Math.min(99, host.lonely + 1);
                if (host.lonely > host.patience) {
                    host.list = new Integer[8];
                    host.lonely = 0;
                    log.add(0, new int[] {week, h, NONE, NONE, 1, 0});
                    settled.add(h);
                }
            }
            week = Math.min(9999, week + 1);
            while (log.size() > 60) log.remove(60);
            return many;
        }

        int gladness() {
            return hosts.stream().mapToInt(h -> h.gladness).sum();
        }
    }

    static final class Wrong extends Exception {
        private static final long serialVersionUID = 1L;
        final int at;

        Wrong(int at) {
            this.at = at;
        }
    }

    /** Reads a text sign by sign. */
    static final class Parser {
        final String s;
        int at = 0;

        Parser(String s) {
            this.s = s;
        }

        char sign() {
            while (at < s.length() && s.charAt(at) == ' ') at++;
            return at < s.length() ? s.charAt(at) : '\uffff';
        }

        boolean atEnd() {
            return sign() == '\uffff';
        }

        Wrong wrong() {
            sign();
            return new Wrong(at);
        }

        String run(char low, char high) {
            sign();
            int to = at;
            while (to < s.length() && s.charAt(to) >= low && s.charAt(to) <= high) to++;
            return s.substring(at, to);
        }

        boolean word(String w) {
            if (!run('a', 'z').equals(w)) return false;
            at += w.length();
            return true;
        }

        void due(String w) throws Wrong {
            if (!word(w)) throw wrong();
        }

        boolean sign(char c) {
            if (sign() != c) return false;
            at++;
            return true;
        }

        int number(int low, int high) throws Wrong {
            String n = run('0', '9');
            if (n.isEmpty() || n.length() > 3) throw wrong();
            int v = Integer.parseInt(n);
            if (v < low || v > high) throw wrong();
            at += n.length();
            return v;
        }

        int marks() throws Wrong {
            String w = run('a', 'z');
            if (w.isEmpty()) throw wrong();
            int set = 0;
            for (char c : w.toCharArray()) {
                if (c > 'f' || (set & 1 << c - 'a') != 0) throw wrong();
                set |= 1 << c - 'a';
            }
            at += w.length();
            return set;
        }

        int hours() throws Wrong {
            due("from");
            int from = number(0, 7);
            due("to");
            int to = number(from, 7);
            int set = 0;
            for (int q = from; q <= to; q++) set |= 1 << q;
            return set;
        }

        void ground(World w) throws Wrong {
            if (atEnd()) return;
            int lines = 0;
            do {
                if (++lines > 14) throw wrong();
                groundLine(w);
            } while (sign(';'));
            if (!atEnd()) throw wrong();
        }

        void groundLine(World w) throws Wrong {
            sign();
            int begin = at;
            if (word("host")) {
                if (w.hosts.size() == 8) throw new Wrong(begin);
                due("patience");
                Host h = new Host();
                h.patience = number(0, 9);
                h.hours = hours();
                w.hosts.add(h);
            } else if (word("guest")) {
                if (w.guests.size() == 8) throw new Wrong(begin);
                due("stay");
                Guest g = new Guest();
                g.stay = number(1, 4);
                g.hours = hours();
                if (word("marks")) g.marks = marks();
                w.guests.add(g);
            } else if (word("likes")) {
                int h = number(0, w.hosts.size() - 1);
                String f = run('0', '9');
                if (f.length() != w.guests.size()) throw wrong();
                for (int g = 0; g < f.length(); g++) w.byHost[h][g] = f.charAt(g) - '0';
                at += f.length();
            } else if (word("loves")) {
                int g = number(0, w.guests.size() - 1);
                String f = run('0', '9');
                if (f.length() != w.hosts.size()) throw wrong();
                for (int h = 0; h < f.length(); h++) w.byGuest[g][h] = f.charAt(h) - '0';
                at += f.length();
            } else if (word("rain")) {
                w.rain = number(0, 100);
            } else if (word("week")) {
                w.week = number(0, 999);
            } else if (word("needs")) {
                w.must = marks();
            } else if (word("bars")) {
                w.not = marks();
            } else {
                throw wrong();
            }
        }

        List<LawLine> law() throws Wrong {
            List<LawLine> lines = new ArrayList<>();
            if (atEnd()) return lines;
            do {
                if (lines.size() == 12) throw wrong();
                LawLine line = new LawLine();
                if (word("admit")) {
                    line.kind = "admit";
                } else {
                    line.kind = run('a', 'z');
                    if (!word("glad") && !word("sour")) throw wrong();
                    line.amount = number(0, 99);
                }
                if (word("if")) line.condition = condition(0);
                lines.add(line);
            } while (sign(';'));
            if (!atEnd()) throw wrong();
            return lines;
        }

        Condition condition(int deep) throws Wrong {
            Condition c = all(deep);
            while (word("or")) {
                Condition a = c;
                Condition b = all(deep);
                c = (w, h, g, q) -> a.holds(w, h, g, q) || b.holds(w, h, g, q);
            }
            return c;
        }

        Condition all(int deep) throws Wrong {
            Condition c = atom(deep);
            while (word("and")) {
                Condition a = c;
                Condition b = atom(deep);
                c = (w, h, g, q) -> a.holds(w, h, g, q) && b.holds(w, h, g, q);
            }
            return c;
        }

        Condition atom(int deep) throws Wrong {
            sign();
            int begin = at;
            if (word("not")) {
                if (deep == 6) throw new Wrong(begin);
                Condition c = atom(deep + 1);
                return (w, h, g, q) -> !c.holds(w, h, g, q);
            }
            if (sign('(')) {
                if (deep == 6) throw new Wrong(begin);
                Condition c = condition(deep + 1);
                if (!sign(')')) throw wrong();
                return c;
            }
            if (word("marked")) return (w, h, g, q) -> w.marked(g);
            if (word("expected")) return (w, h, g, q) -> w.hosts.get(h).list[q] != null && w.hosts.get(h).list[q] == g;
            Amount left = sum();
            boolean less = sign('<');
            if (!less && !sign('>')) throw wrong();
            Amount right = sum();
            return less ? (w, h, g, q) -> left.of(w, h, g, q) < right.of(w, h, g, q)
                : (w, h, g, q) -> left.of(w, h, g, q) > right.of(w, h, g, q);
        }

        Amount sum() throws Wrong {
            Amount c = part();
            while (sign('+')) {
                Amount a = c;
                Amount b = part();
                c = (w, h, g, q) -> a.of(w, h, g, q) + b.of(w, h, g, q);
            }
            return c;
        }

        Amount part() throws Wrong {
            if (word("host")) return (w, h, g, q) -> h;
            if (word("guest")) return (w, h, g, q) -> g;
            if (word("quarter")) return (w, h, g, q) -> q;
            if (word("lonely")) return (w, h, g, q) -> w.hosts.get(h).lonely;
            if (word("rank")) return (w, h, g, q) -> w.byHost[h][g];
            if (word("loved")) return (w, h, g, q) -> w.byGuest[g][h];
            if (word("week")) return (w, h, g, q) -> w.week;
            int n = number(0, 999);
            return (w, h, g, q) -> n;
        }
    }

    World now = new World();
    World kept = null;
    Deque<World> past = new ArrayDeque<>();
    StringBuilder tape = new StringBuilder();
    int fault = NONE;

    private void act() {
        past.push(now.copy());
        if (past.size() > 12) past.removeLast();
    }

    private void host(int h) {
        if (h < 0 || h >= now.hosts.size()) throw new IndexOutOfBoundsException();
    }

    private void guest(int g) {
        if (g < 0 || g >= now.guests.size()) throw new IndexOutOfBoundsException();
    }

    private void quarter(int q) {
        if (q < 0 || q > 7) throw new IndexOutOfBoundsException();
    }

    private void in(int n, int low, int high) {
        if (n < low || n > high) throw new IllegalArgumentException();
    }

    private String useTape() {
        String s = tape.toString();
        tape.setLength(0);
        return s;
    }

    int feed(int a, int b, int c, int d, int e) {
        if (tape.length() + 20 > 400) return NONE;
        for (int n : new int[] {a, b, c, d, e}) {
            tape.append((char) (n >> 24 & 255)).append((char) (n >> 16 & 255)).append((char) (n >> 8 & 255)).append((char) (n & 255));
        }
        return tape.length();
    }

    boolean end(int n) {
        if (n < 0 || tape.length() < n) return false;
        tape.setLength(n);
        return true;
    }

    int ground() {
        World w = now.copy();
        try {
            new Parser(useTape()).ground(w);
            fault = NONE;
        } catch (Wrong e) {
            fault = e.at;
            throw new IllegalArgumentException();
        }
        if (now.texts == 12) throw new UnsupportedOperationException();
        now = w;
        now.texts++;
        past.clear();
        return now.texts;
    }

    int law() {
        try {
            now.law = new Parser(useTape()).law();
            fault = NONE;
        } catch (Wrong e) {
            fault = e.at;
            throw new IllegalArgumentException();
        }
        past.clear();
        return now.law.size();
    }

    int fault() {
        return fault;
    }

    int free(int h) {
        int set = 0;
        for (int q = 0; q < 8; q++) {
            if ((now.hosts.get(h).hours & 1 << q) != 0 && now.hosts.get(h).list[q] == null) set |= 1 << q;
        }
        return set;
    }

    int sees(int h) {
        int set = 0;
        for (Integer g : now.hosts.get(h).list) if (g != null) set |= 1 << g;
        return set;
    }

    int busy(int g) {
        int set = 0;
        for (Host h : now.hosts) for (int q = 0; q < 8; q++) if (h.list[q] != null && h.list[q] == g) set |= 1 << q;
        return set;
    }

    int liked(int g) {
        int sum = 0;
        for (int h = 0; h < now.hosts.size(); h++) sum += now.byHost[h][g];
        return sum;
    }

    int host(int host, int what) {
        host(host);
        Host h = now.hosts.get(host);
        switch (what) {
            case 0: return h.patience;
            case 1: return h.hours;
            case 2: return h.gladness;
            case 3: return h.lonely;
            case 4: return free(host);
            case 5: return sees(host);
            case 6: return now.gladness() == 0 ? 0 : 100 * h.gladness / now.gladness();
            default: throw new NoSuchElementException();
        }
    }

    int guest(int guest, int what) {
        guest(guest);
        Guest g = now.guests.get(guest);
        switch (what) {
            case 0: return g.stay;
            case 1: return g.hours;
            case 2: return g.marks;
            case 3: return busy(guest);
            case 4: return liked(guest);
            case 5: return now.marked(guest) ? 1 : 0;
            default: throw new NoSuchElementException();
        }
    }

    int rank(int h, int g, boolean by) {
        host(h);
        guest(g);
        return by ? now.byHost[h][g] : now.byGuest[g][h];
    }

    int booked(int h, int q) {
        host(h);
        quarter(q);
        Integer g = now.hosts.get(h).list[q];
        return g == null ? NONE : g;
    }

    private void three(int h, int g, int q) {
        host(h);
        guest(g);
        quarter(q);
    }

    boolean can(int h, int g, int q) {
        three(h, g, q);
        return now.can(h, g, q);
    }

    boolean lets(int h, int g, int q) {
        three(h, g, q);
        return now.letIn(h, g, q);
    }

    int joy(int h, int g, int q) {
        three(h, g, q);
        return now.joy(h, g, q);
    }

    int book(int h, int g, int q) {
        three(h, g, q);
        if (!now.can(h, g, q) || (busy(g) & 1 << q) != 0) throw new IllegalStateException();
        act();
        int was = booked(h, q);
        now.hosts.get(h).list[q] = g;
        return was;
    }

    int strike(int h, int q) {
        host(h);
        quarter(q);
        int was = booked(h, q);
        if (was == NONE) throw new IllegalStateException();
        act();
        now.hosts.get(h).list[q] = null;
        return was;
    }

    int change(int a, int b, int q) {
        host(a);
        host(b);
        quarter(q);
        if (a == b) throw new IllegalArgumentException();
        act();
        Integer x = now.hosts.get(a).list[q];
        now.hosts.get(a).list[q] = now.hosts.get(b).list[q];
        now.hosts.get(b).list[q] = x;
        return booked(a, q);
    }

    int mark(int g, int m) {
        guest(g);
        in(m, 0, 63);
        act();
        int was = now.guests.get(g).marks;
        now.guests.get(g).marks = m;
        return was;
    }

    int gate(int must, int not) {
        in(must, 0, 63);
        in(not, 0, 63);
        act();
        int was = 64 * now.must + now.not;
        now.must = must;
        now.not = not;
        return was;
    }

    int value(int h, int g, boolean by, int n) {
        host(h);
        guest(g);
        in(n, 0, 9);
        act();
        int was = rank(h, g, by);
        if (by) now.byHost[h][g] = n;
        else now.byGuest[g][h] = n;
        return was;
    }

    int weeks(int n) {
        in(n, 1, 60);
        act();
        int sum = 0;
        for (int i = 0; i < n; i++) sum += now.weekMore(true, new HashSet<>());
        return sum;
    }

    int meetings(boolean glad) {
        int sum = 0;
        for (int q = 0; q < 8; q++) {
            for (int h = 0; h < now.hosts.size(); h++) {
                if (now.meets(h, q)) sum += glad ? now.joy(h, now.hosts.get(h).list[q], q) : 1;
            }
        }
        return sum;
    }

    int twice() {
        int set = 0;
        for (int g = 0; g < now.guests.size(); g++) {
            int many = 0;
            for (int h = 0; h < now.hosts.size(); h++) if ((sees(h) & 1 << g) != 0) many++;
            if (many >= 2) set |= 1 << g;
        }
        return set;
    }

    int taboo() {
        int sum = 0;
        for (int h = 0; h < now.hosts.size(); h++) {
            for (int q = 0; q < 8; q++) {
                Integer g = now.hosts.get(h).list[q];
                if (g != null && (!now.can(h, g, q) || !now.letIn(h, g, q))) sum++;
            }
        }
        return sum;
    }

    private boolean hostRather(int h, int g, int own) {
        if (now.byHost[h][g] == 0) return false;
        if (own == NONE) return true;
        return now.byHost[h][g] > now.byHost[h][own] || now.byHost[h][g] == now.byHost[h][own] && g < own;
    }

    private boolean guestRather(int g, int h, int own) {
        if (now.byGuest[g][h] == 0) return false;
        if (own == NONE) return true;
        return now.byGuest[g][h] > now.byGuest[g][own] || now.byGuest[g][h] == now.byGuest[g][own] && h < own;
    }

    private boolean both(int h, int g) {
        return now.byHost[h][g] > 0 && now.byGuest[g][h] > 0;
    }

    private int rivals(int[] with) {
        int sum = 0;
        for (int h = 0; h < with.length; h++) {
            for (int g = 0; g < now.guests.size(); g++) {
                int of = NONE;
                for (int i = 0; i < with.length; i++) if (with[i] == g) of = i;
                if (both(h, g) && hostRather(h, g, with[h]) && guestRather(g, h, of)) sum++;
            }
        }
        return sum;
    }

    private void allPairs(int[] with, int h, List<int[]> calm) {
        if (h == with.length) {
            if (rivals(with) == 0) calm.add(with.clone());
            return;
        }
        with[h] = NONE;
        allPairs(with, h + 1, calm);
        for (int g = 0; g < now.guests.size(); g++) {
            boolean taken = false;
            for (int i = 0; i < h; i++) taken |= with[i] == g;
            if (taken || !both(h, g)) continue;
            with[h] = g;
            allPairs(with, h + 1, calm);
        }
        with[h] = NONE;
    }

    private List<int[]> calm() {
        List<int[]> calm = new ArrayList<>();
        allPairs(new int[now.hosts.size()], 0, calm);
        return calm;
    }

    int hostBest(int host) {
        host(host);
        int best = NONE;
        for (int[] way : calm()) if (way[host] != NONE && (best == NONE || hostRather(host, way[host], best))) best = way[host];
        return best;
    }

    int guestBest(int host) {
        host(host);
        List<int[]> calm = calm();
        for (int[] way : calm) {
            boolean best = true;
            for (int[] other : calm) {
                for (int g = 0; g < now.guests.size(); g++) {
                    int own = NONE;
                    int its = NONE;
                    for (int h = 0; h < way.length; h++) {
                        if (way[h] == g) own = h;
                        if (other[h] == g) its = h;
                    }
                    if (its != NONE && its != own && guestRather(g, its, own)) best = false;
                }
            }
            if (best) return way[host];
        }
        throw new AssertionError("no best way for the guests");
    }

    int ways() {
        return calm().size();
    }

    int rather() {
        String s = useTape();
        if (s.length() != now.hosts.size()) throw new IllegalArgumentException();
        int[] with = new int[s.length()];
        for (int h = 0; h < with.length; h++) {
            with[h] = s.charAt(h) == 255 ? NONE : s.charAt(h);
            if (with[h] >= now.guests.size()) throw new IllegalArgumentException();
        }
        for (int h = 0; h < with.length; h++) {
            if (with[h] == NONE) continue;
            if (!both(h, with[h])) return NONE;
            for (int i = 0; i < h; i++) if (with[i] == with[h]) return NONE;
        }
        return rivals(with);
    }

    /** Whether the guests in set can be seen one behind another, from a quarter on, tried in all rows. */
    private boolean inARow(int h, int set, int from) {
        if (set == 0) return true;
        for (int g = 0; g < 8; g++) {
            if ((set & 1 << g) == 0 || !both(h, g)) continue;
            Guest guest = now.guests.get(g);
            for (int q = from; q + guest.stay <= 8; q++) {
                boolean fits = true;
                for (int i = q; i < q + guest.stay; i++) fits &= (guest.hours & now.hosts.get(h).hours & 1 << i) != 0;
                if (fits && inARow(h, set & ~(1 << g), q + guest.stay)) return true;
            }
        }
        return false;
    }

    int row(int h, int guests, boolean set) {
        host(h);
        int told = guests & (1 << now.guests.size()) - 1;
        for (int many = 8; many >= 0; many--) {
            for (int some = 0; some < 256; some++) {
                if (Integer.bitCount(some) == many && (some & told) == some && inARow(h, some, 0)) return set ? some : many;
            }
        }
        throw new AssertionError();
    }

    interface Gain {
        int of(int row, int column);
    }

    private static final class Best {
        int most = -1;
        int[] way;
    }

    /** Tries all ways, in their order, so that the first best one is found first. */
    private static void allWays(int[] way, int row, int columns, int sum, Gain gain, Best best) {
        if (row == way.length) {
            if (sum > best.most) {
                best.most = sum;
                best.way = way.clone();
            }
            return;
        }
        way[row] = NONE;
        allWays(way, row + 1, columns, sum, gain, best);
        for (int c = 0; c < columns; c++) {
            boolean taken = false;
            for (int i = 0; i < row; i++) taken |= way[i] == c;
            if (taken || gain.of(row, c) == 0) continue;
            way[row] = c;
            allWays(way, row + 1, columns, sum + gain.of(row, c), gain, best);
        }
        way[row] = NONE;
    }

    private static Best best(int rows, int columns, Gain gain) {
        Best best = new Best();
        allWays(new int[rows], 0, columns, 0, gain, best);
        return best;
    }

    int afternoon(int q, int host) {
        quarter(q);
        if (host != NONE) host(host);
        Best best = best(now.hosts.size(), now.guests.size(), (h, g) -> now.can(h, g, q) ? 1 : 0);
        return host == NONE ? best.most : best.way[host];
    }

    private String rows() {
        String s = useTape();
        if (s.length() > 40 || s.length() % 2 == 1) throw new IllegalArgumentException();
        for (int i = 0; i < s.length(); i += 2) {
            if (s.charAt(i) > 63 || s.charAt(i + 1) > 1) throw new IllegalArgumentException();
        }
        return s;
    }

    private static boolean pass(int marks, int must, int not) {
        return (must & ~marks) == 0 && (not & marks) == 0;
    }

    private static List<int[]> fitting(String s) {
        List<int[]> fit = new ArrayList<>();
        for (int n = 0; n < 729; n++) {
            int must = 0;
            int not = 0;
            int rest = n;
            for (int m = 0; m < 6; m++, rest /= 3) {
                if (rest % 3 == 1) must |= 1 << m;
                if (rest % 3 == 2) not |= 1 << m;
            }
            boolean fits = true;
            for (int i = 0; i < s.length(); i += 2) fits &= pass(s.charAt(i), must, not) == (s.charAt(i + 1) == 1);
            if (fits) fit.add(new int[] {must, not});
        }
        return fit;
    }

    int rules(boolean plain) {
        List<int[]> fit = fitting(rows());
        if (!plain) return fit.size();
        return fit.stream().mapToInt(r -> Integer.bitCount(r[0]) + Integer.bitCount(r[1])).min().orElse(NONE);
    }

    int send() {
        List<int[]> fit = fitting(rows());
        if (fit.size() < 2) return NONE;
        int best = NONE;
        int least = Integer.MAX_VALUE;
        for (int m = 0; m < 64; m++) {
            int marks = m;
            int in = (int) fit.stream().filter(r -> pass(marks, r[0], r[1])).count();
            if (Math.max(in, fit.size() - in) < least) {
                least = Math.max(in, fit.size() - in);
                best = m;
            }
        }
        return best;
    }

    int hand(boolean many) {
        String s = useTape();
        Set<Character> unlike = new HashSet<>();
        for (char c : s.toCharArray()) {
            if (c >= now.guests.size() || !unlike.add(c)) throw new IllegalArgumentException();
        }
        int writer = NONE;
        int fewest = 0;
        for (int h = now.hosts.size() - 1; h >= 0; h--) {
            int wrong = 0;
            for (int i = 0; i < s.length(); i++) {
                for (int j = 0; j < i; j++) if (now.byHost[h][s.charAt(j)] < now.byHost[h][s.charAt(i)]) wrong++;
            }
            if (writer == NONE || wrong <= fewest) {
                writer = h;
                fewest = wrong;
            }
        }
        return many ? fewest : writer;
    }

    int dry() {
        for (int many = 0; many <= 8; many++) {
            for (int set = 0; set < 256; set++) {
                if (Integer.bitCount(set) != many) continue;
                boolean all = true;
                for (int h = 0; h < now.hosts.size(); h++) {
                    boolean would = false;
                    boolean does = false;
                    for (int q = 0; q < 8; q++) {
                        would |= now.meets(h, q);
                        does |= now.meets(h, q) && (set & 1 << q) != 0;
                    }
                    all &= does || !would;
                }
                if (all) return set;
            }
        }
        throw new AssertionError();
    }

    int saved(int host, int wet) {
        host(host);
        return best(8, 8, (from, to) -> {
            if ((wet & 1 << from) == 0 || !now.meets(host, from) || (wet & 1 << to) != 0) return 0;
            int g = now.hosts.get(host).list[from];
            boolean free = (free(host) & 1 << to) != 0;
            return free && (now.guests.get(g).hours & 1 << to) != 0 && (busy(g) & 1 << to) == 0 ? 1 : 0;
        }).most;
    }

    int lend(int guest) {
        if (guest != NONE) guest(guest);
        Best best = best(now.guests.size(), now.hosts.size(),
            (g, h) -> busy(g) == 0 && sees(h) == 0 && both(h, g) ? now.byHost[h][g] : 0);
        return guest == NONE ? best.most : best.way[guest];
    }

    int odds(int n, int k) {
        in(n, 0, 7);
        in(k, 0, 8);
        BigInteger sum = BigInteger.ZERO;
        for (int wet = 0; wet < 1 << n; wet++) {
            int rains = Integer.bitCount(wet);
            if (n - rains < k) continue;
            sum = sum.add(BigInteger.valueOf(now.rain).pow(rains).multiply(BigInteger.valueOf(100 - now.rain).pow(n - rains)));
        }
        return sum.multiply(BigInteger.valueOf(10000)).divide(BigInteger.valueOf(100).pow(n)).intValueExact();
    }

    int waits(int n, int q) {
        quarter(q);
        in(n, 0, 8);
        BigInteger all = BigInteger.valueOf(100).pow(n);
        return all.subtract(BigInteger.valueOf(now.rain).pow(n)).multiply(BigInteger.valueOf(10000)).divide(all).intValueExact();
    }

    private int has(int h, int quarters) {
        Host host = now.hosts.get(h);
        return (host.patience + 1) * quarters - (quarters > Integer.bitCount(host.hours) ? 4 : 0);
    }

    int treaty(int a, int b) {
        host(a);
        host(b);
        if (a == b) throw new IllegalArgumentException();
        int best = NONE;
        int most = -1;
        for (int q = 0; q <= 8; q++) {
            if (has(a, q) < 2 || has(b, 8 - q) < 2) continue;
            int product = (has(a, q) - 2) * (has(b, 8 - q) - 2);
            if (product > most) {
                most = product;
                best = q;
            }
        }
        return best;
    }

    int rests(int h, int g) {
        host(h);
        guest(g);
        int rank = now.byGuest[g][h];
        int truth = now.marked(g) ? rank : 0;
        int[][] guest = {{truth, -3}, {truth, rank + 1}};
        int[][] gate = {{-1, -1 + 4}, {0, -2}};
        int set = 0;
        for (int i = 0; i < 2; i++) {
            for (int j = 0; j < 2; j++) {
                if (gate[1 - i][j] <= gate[i][j] && guest[i][1 - j] <= guest[i][j]) set |= 1 << (2 * i + j);
            }
        }
        return set;
    }

    int dearest() {
        int best = NONE;
        for (int g = now.guests.size() - 1; g >= 0; g--) if (best == NONE || liked(g) >= liked(best)) best = g;
        return best;
    }

    int forlorn() {
        int set = 0;
        for (int h = 0; h < now.hosts.size(); h++) {
            boolean any = false;
            for (int g = 0; g < now.guests.size(); g++) for (int q = 0; q < 8; q++) any |= now.can(h, g, q);
            if (!any && !now.guests.isEmpty()) set |= 1 << h;
        }
        return set;
    }

    int alike() {
        int sum = 0;
        for (int a = 0; a < now.hosts.size(); a++) {
            for (int b = a + 1; b < now.hosts.size(); b++) {
                int n = now.guests.size();
                if (Arrays.equals(Arrays.copyOf(now.byHost[a], n), Arrays.copyOf(now.byHost[b], n))
                    && now.hosts.get(a).hours == now.hosts.get(b).hours) sum++;
            }
        }
        return sum;
    }

    int settle(int host) {
        host(host);
        World w = now.copy();
        for (int n = 1; n <= 60; n++) {
            Set<Integer> settled = new HashSet<>();
            w.weekMore(false, settled);
            if (settled.contains(host)) return n;
        }
        return NONE;
    }

    private World after(int n, boolean rains, int seed, Set<Integer> settled) {
        World w = now.copy();
        w.seed = seed;
        for (int i = 0; i < n; i++) w.weekMore(rains, settled);
        return w;
    }

    int gladder(int n) {
        in(n, 0, 60);
        return after(n, false, 0, new HashSet<>()).gladness() - now.gladness();
    }

    int ahead(int host, int n, int what) {
        host(host);
        in(n, 0, 60);
        if (what != 0 && what != 1) throw new NoSuchElementException();
        Host h = after(n, false, 0, new HashSet<>()).hosts.get(host);
        return what == 0 ? h.gladness : h.lonely;
    }

    int trial(int n, boolean settled) {
        in(n, 0, 60);
        Set<Integer> who = new HashSet<>();
        World w = after(n, true, now.seed, who);
        return settled ? who.stream().mapToInt(h -> 1 << h).sum() : w.gladness();
    }

    int span(int n, boolean most) {
        in(n, 0, 60);
        List<Integer> all = new ArrayList<>();
        for (int seed = 1; seed <= 6; seed++) all.add(after(n, true, seed, new HashSet<>()).gladness());
        return all.stream().mapToInt(i -> most ? i : -i).max().getAsInt() * (most ? 1 : -1);
    }

    int led(int host, boolean week) {
        host(host);
        if (!week) return (int) now.log.stream().filter(r -> r[1] == host).count();
        return now.log.stream().filter(r -> r[1] == host).mapToInt(r -> r[0]).findFirst().orElse(NONE);
    }

    int log(int ago, int what) {
        if (what < 0 || what > 5) throw new NoSuchElementException();
        return ago < 0 || ago >= now.log.size() ? -2 : now.log.get(ago)[what];
    }

    int seed(int n) {
        int was = now.seed;
        now.seed = n;
        return was;
    }

    boolean undo() {
        if (past.isEmpty()) return false;
        now = past.pop();
        return true;
    }

    void image() {
        kept = now.copy();
    }

    boolean back() {
        if (kept == null) return false;
        now = kept.copy();
        past.clear();
        return true;
    }

    int count(int what) {
        switch (what) {
            case 0: return now.hosts.size();
            case 1: return now.guests.size();
            case 2: return now.texts;
            case 3: return now.law == null ? NONE : now.law.size();
            case 4: return now.week;
            case 5: return now.rain;
            case 6: return now.must;
            case 7: return now.not;
            case 8: {
                int sum = 0;
                for (Host h : now.hosts) for (Integer g : h.list) if (g != null) sum++;
                return sum;
            }
            case 9: return now.gladness();
            case 10: return now.log.size();
            case 11: return past.size();
            default: return NONE;
        }
    }
}
