import java.lang.reflect.InvocationTargetException;
import java.lang.reflect.Method;
import java.util.ArrayList;
import java.util.List;
import java.util.Random;

/** Runs of random calls, each answered by the program and by Model. */
public final class ModelTest {
    private static final String[] READS = {
        "host", "guest", "rank", "booked", "can", "lets", "joy", "meetings", "twice", "taboo", "hostBest", "guestBest",
        "ways", "row", "afternoon", "dry", "saved", "lend", "odds", "waits", "treaty", "rests", "dearest", "forlorn",
        "alike", "settle", "gladder", "ahead", "trial", "span", "led", "log", "count", "fault"};
    private static final String[] ACTS = {
        "book", "book", "book", "book", "book", "book", "book", "book", "strike", "change", "mark", "gate", "value",
        "weeks", "weeks", "seed", "undo", "image", "back"};
    private static final String[] TOLD = {"rather", "rules", "send", "hand"};
    /** What an object answers to later calls is free. */
    private static final int MOST_CALLS = 512;
    /** All HOSTS and GUESTS that there may be: more than a single text can tell. */
    private static final int CROWD = 8;
    private static final int[] ODD = {-1, -2, 8, 9, 60, 61, 63, 64, 255, 256, Integer.MAX_VALUE, Integer.MIN_VALUE, -8};

    private final Random random;
    private final VisitingHours program = new VisitingHours();
    private final Model model = new Model();
    private final List<String> calls = new ArrayList<>();
    private final int size;
    private int hosts;
    private int guests;
    private static int compared = 0;

    private ModelTest(long seed, int size) {
        random = new Random(seed);
        this.size = size;
    }

    public static void main(String[] args) throws Exception {
        int runs = args.length > 0 ? Integer.parseInt(args[0]) : 1500;
        long first = args.length > 1 ? Long.parseLong(args[1]) : 1;
        int failed = 0;
        for (long seed = first; seed < first + runs && failed < 3; seed++) {
            int size = args.length > 2 ? Integer.parseInt(args[2]) : seed % 300 == 0 ? CROWD : seed % 50 == 0 ? 6 : seed % 10 == 0 ? 5 : seed % 3 == 0 ? 3 : 4;
            String wrong = new ModelTest(seed, size).run();
            if (wrong != null) {
                failed++;
                System.out.println("seed " + seed + ": " + wrong);
            }
        }
        System.out.println("ModelTest: " + compared + " answers compared, " + failed + " runs wrong");
        if (failed > 0) System.exit(1);
    }

    private static Method find(Class<?> where, String name) {
        for (Method m : where.getDeclaredMethods()) if (m.getName().equals(name) && !java.lang.reflect.Modifier.isPrivate(m.getModifiers())) return m;
        throw new AssertionError(name);
    }

    private static String answer(Object of, String name, Object[] args) throws Exception {
        Method m = find(of.getClass(), name);
        m.setAccessible(true);
        try {
            Object a = m.invoke(of, args);
            return String.valueOf(a);
        } catch (InvocationTargetException e) {
            return "throws " + e.getCause().getClass().getName();
        }
    }

    private String call(String name, Object... args) throws Exception {
        StringBuilder said = new StringBuilder(name).append('(');
        for (int i = 0; i < args.length; i++) said.append(i > 0 ? ", " : "").append(args[i]);
        calls.add(said.append(')').toString());
        String due = answer(model, name, args);
        String is = answer(program, name, args);
        compared++;
        return due.equals(is) ? null : said + " answered " + is + ", due is " + due + " after " + calls;
    }

    private String tell(byte[] bytes) throws Exception {
        for (int i = 0; i < bytes.length; i += 20) {
            int[] n = new int[5];
            for (int j = 0; j < 20; j++) {
                int b = i + j < bytes.length ? bytes[i + j] & 255 : 0;
                n[j / 4] = n[j / 4] << 8 | b;
            }
            String wrong = call("feed", n[0], n[1], n[2], n[3], n[4]);
            if (wrong != null) return wrong;
        }
        return call("end", bytes.length);
    }

    private String run() throws Exception {
        String wrong = size == CROWD ? crowd() : text(true, ground(true));
        for (int i = 0; wrong == null && i < 120; i++) {
            hosts = model.count(0);
            guests = model.count(1);
            int what = random.nextInt(100);
            if (what < 4) wrong = text(true, ground(false));
            else if (what < 8) wrong = text(false, law());
            else if (what < 14) wrong = told();
            else if (what < 45) wrong = random(ACTS);
            else wrong = random(READS);
        }
        return wrong != null ? wrong : lookAtAll();
    }

    private String lookAtAll() throws Exception {
        String wrong = null;
        for (int what = 0; wrong == null && what < 12; what++) wrong = call("count", what);
        for (int h = 0; wrong == null && h < model.count(0); h++) {
            for (int what = 0; wrong == null && what < 7; what++) wrong = call("host", h, what);
            for (int q = 0; wrong == null && q < 8; q++) wrong = call("booked", h, q);
        }
        for (int ago = 0; wrong == null && calls.size() + 6 <= MOST_CALLS && ago < model.count(10); ago++) {
            for (int what = 0; wrong == null && what < 6; what++) wrong = call("log", ago, what);
        }
        return wrong;
    }

    private String random(String[] names) throws Exception {
        String name = names[random.nextInt(names.length)];
        Class<?>[] types = find(VisitingHours.class, name).getParameterTypes();
        Object[] args = new Object[types.length];
        for (int i = 0; i < args.length; i++) {
            args[i] = types[i] == boolean.class ? (Object) random.nextBoolean() : (Object) number(name, i);
        }
        return call(name, args);
    }

    private int below(int n) {
        return n <= 0 ? 0 : random.nextInt(n);
    }

    private int number(String name, int i) {
        if (random.nextInt(40) == 0) return ODD[random.nextInt(ODD.length)];
        switch (name + i) {
            case "host1": case "guest1": case "log1": return below(8);
            case "booked1": case "strike1": case "can2": case "lets2": case "joy2": case "book2": case "change2":
            case "afternoon0": case "waits1": return below(8);
            case "rank1": case "can1": case "lets1": case "joy1": case "book1": case "value1": case "guest0": case "mark0":
            case "rests1": return below(guests);
            case "lend0": return below(guests + 1) - 1;
            case "afternoon1": return below(hosts + 1) - 1;
            case "mark1": case "gate0": case "gate1": return random.nextInt(3) == 0 ? below(64) : 1 << below(6);
            case "value3": return below(10);
            case "weeks0": case "trial0": case "span0": case "gladder0": case "ahead1":
                return random.nextInt(4) == 0 ? below(61) : below(6);
            case "ahead2": return below(2);
            case "row1": case "saved1": return below(256);
            case "odds0": case "odds1": case "waits0": return below(9);
            case "log0": return random.nextInt(3) == 0 ? below(62) : below(8);
            case "seed0": return random.nextInt();
            case "count0": return below(13) - 1;
            default: return below(hosts);
        }
    }

    private String told() throws Exception {
        String name = TOLD[random.nextInt(TOLD.length)];
        byte[] bytes;
        if (name.equals("rather")) {
            bytes = new byte[Math.max(0, hosts + (random.nextInt(12) == 0 ? random.nextInt(3) - 1 : 0))];
            for (int i = 0; i < bytes.length; i++) bytes[i] = (byte) (random.nextInt(4) == 0 ? 255 : below(guests + (random.nextInt(9) == 0 ? 1 : 0)));
        } else if (name.equals("hand")) {
            List<Integer> all = new ArrayList<>();
            for (int g = 0; g < guests; g++) all.add(g);
            java.util.Collections.shuffle(all, random);
            if (random.nextInt(8) == 0) all.add(below(guests + 1));
            bytes = new byte[random.nextBoolean() ? all.size() : below(all.size() + 1)];
            for (int i = 0; i < bytes.length; i++) bytes[i] = (byte) (int) all.get(i);
        } else {
            int must = random.nextInt(64);
            int not = random.nextInt(64) & ~must;
            bytes = new byte[2 * random.nextInt(random.nextInt(10) == 0 ? 22 : 6) + (random.nextInt(15) == 0 ? 1 : 0)];
            for (int i = 0; i < bytes.length; i++) {
                boolean lets = i % 2 == 1 && (bytes[i - 1] & must) == must && (bytes[i - 1] & not) == 0;
                bytes[i] = (byte) (i % 2 == 0 ? random.nextInt(64) | (random.nextBoolean() ? must : 0) : lets ? 1 : 0);
                if (random.nextInt(60) == 0) bytes[i] = (byte) random.nextInt(256);
            }
        }
        String wrong = tell(bytes);
        Class<?>[] types = find(VisitingHours.class, name).getParameterTypes();
        if (wrong != null) return wrong;
        return types.length == 0 ? call(name) : call(name, random.nextBoolean());
    }

    private String crowd() throws Exception {
        List<String> lines = new ArrayList<>();
        for (int h = 0; h < CROWD; h++) lines.add("host patience " + random.nextInt(10) + " " + hours());
        String wrong = told(lines);
        for (int g = 0; g < CROWD; g++) lines.add("guest stay " + (1 + random.nextInt(3)) + " " + hours());
        wrong = wrong == null ? told(lines) : wrong;
        for (int h = 0; h < CROWD; h++) lines.add("likes " + h + " " + ranks(CROWD));
        wrong = wrong == null ? told(lines) : wrong;
        for (int g = 0; g < CROWD; g++) lines.add("loves " + g + " " + ranks(CROWD));
        return wrong == null ? told(lines) : wrong;
    }

    private String told(List<String> lines) throws Exception {
        String wrong = tell(String.join(";", lines).getBytes("ISO-8859-1"));
        lines.clear();
        return wrong == null ? call("ground") : wrong;
    }

    private String text(boolean ground, String text) throws Exception {
        if (random.nextInt(5) == 0) text = spoil(text);
        if (text.length() > 400) text = text.substring(0, 400);
        byte[] bytes = text.getBytes("ISO-8859-1");
        String wrong = tell(bytes);
        if (wrong == null) wrong = call(ground ? "ground" : "law");
        return wrong == null ? call("fault") : wrong;
    }

    private String spoil(String text) {
        StringBuilder s = new StringBuilder(text);
        String signs = " ;()<>+0123456789abcfghostnidx#A\u00e9";
        String[] words = {" not ", " host ", " ( ", " and ", " 5 ", "; ", " if ", " rain ", " 1234 "};
        for (int i = random.nextInt(2); i >= 0; i--) {
            int at = below(s.length() + 1);
            switch (random.nextInt(4)) {
                case 0: s.insert(at, signs.charAt(below(signs.length()))); break;
                case 1: if (at < s.length()) s.deleteCharAt(at); break;
                case 2: s.insert(at, words[below(words.length)]); break;
                default: s.setLength(at);
            }
        }
        return s.toString();
    }

    private String blank() {
        return random.nextInt(12) == 0 ? "  " : " ";
    }

    private String hours() {
        int from = random.nextInt(random.nextBoolean() ? 3 : 8);
        int to = from + random.nextInt(8 - from);
        return "from" + blank() + from + " to" + blank() + to;
    }

    private String marks() {
        StringBuilder s = new StringBuilder();
        for (char c = 'f'; c >= 'a'; c--) if (random.nextInt(3) == 0) s.append(c);
        return s.length() == 0 ? "b" : s.toString();
    }

    private String ranks(int many) {
        StringBuilder s = new StringBuilder();
        for (int i = 0; i < many; i++) s.append(random.nextInt(3) == 0 ? random.nextInt(3) : random.nextInt(10));
        return s.toString();
    }

    private String ground(boolean first) {
        int h = first ? 0 : hosts;
        int g = first ? 0 : guests;
        List<String> lines = new ArrayList<>();
        int mostHosts = first ? random.nextInt(size + 1) : random.nextInt(20) == 0 ? 2 : 0;
        int mostGuests = first ? random.nextInt(size + 1) : random.nextInt(20) == 0 ? 2 : 0;
        for (int i = 0; i < mostHosts && (first || h < size); i++, h++) lines.add("host patience " + random.nextInt(random.nextBoolean() ? 3 : 10) + " " + hours());
        for (int i = 0; i < mostGuests && (first || g < size); i++, g++) {
            lines.add("guest stay " + (1 + random.nextInt(random.nextBoolean() ? 2 : 4)) + " " + hours() + (random.nextBoolean() ? " marks " + marks() : ""));
        }
        int more = random.nextInt(5);
        for (int i = 0; i < more; i++) {
            switch (random.nextInt(7)) {
                case 0: case 1: lines.add("likes " + below(h) + blank() + ranks(g)); break;
                case 2: case 3: lines.add("loves " + below(g) + blank() + ranks(h)); break;
                case 4: lines.add("rain " + random.nextInt(random.nextBoolean() ? 40 : 101)); break;
                case 5: lines.add("week " + random.nextInt(random.nextBoolean() ? 10 : 1000)); break;
                default: lines.add((random.nextBoolean() ? "needs " : "bars ") + (random.nextBoolean() ? "a" : marks()));
            }
        }
        return String.join(random.nextInt(4) == 0 ? " ; " : ";", lines);
    }

    private String law() {
        StringBuilder s = new StringBuilder();
        int lines = random.nextInt(5);
        for (int i = 0; i < lines; i++) {
            if (i > 0) s.append(random.nextBoolean() ? ";" : " ; ");
            int kind = random.nextInt(5);
            s.append(kind < 2 ? "glad " + random.nextInt(15) : kind < 4 ? "sour " + random.nextInt(10) : "admit");
            if (random.nextInt(5) > 0) s.append(" if ").append(condition(random.nextInt(4)));
        }
        return s.toString();
    }

    private String condition(int deep) {
        switch (deep == 0 ? random.nextInt(4) : random.nextInt(9)) {
            case 0: return "marked";
            case 1: return "expected";
            case 2: case 3: return sum() + (random.nextBoolean() ? "<" : " > ") + sum();
            case 4: return "not " + condition(deep - 1);
            case 5: return "(" + condition(deep - 1) + ")";
            case 6: case 7: return condition(deep - 1) + " and " + condition(deep - 1);
            default: return condition(deep - 1) + " or " + condition(deep - 1);
        }
    }

    private String sum() {
        String[] parts = {"host", "guest", "quarter", "lonely", "rank", "loved", "week", "3", "7", "1"};
        String s = parts[random.nextInt(parts.length)];
        return random.nextInt(3) == 0 ? s + " + " + parts[random.nextInt(parts.length)] : s;
    }
}
