import java.nio.file.Files;
import java.nio.file.Path;
import java.util.ArrayList;
import java.util.BitSet;
import java.util.List;
import java.util.regex.Matcher;
import java.util.regex.Pattern;

/** The words of DOC.md, and which of them a test has named. */
final class Document {
    static final int PROMISES = 54;
    /** Words by which a sentence names a boundary case. */
    private static final Pattern EDGE = Pattern.compile("\\bat (most|least|first)\\b|\\bnone\\b|\\bNONE\\b|\\d+ to \\d+|Exception|\\bnot\\b|\\bof several\\b"
        + "|\\brounded\\b|\\b(without|within)\\b|\\b(fewer|fewest|less|lesser|least|more|most|greater|greatest|latest|first)\\b|\\bempty\\b|\\balone\\b|\\babove\\b"
        + "|\\bbelow\\b|\\bround\\b|\\btoo\\b|\\bfalse\\b|\\bno\\b|\\bnobody\\b|\\bnowhere\\b|\\bnothing\\b|\\bneither\\b|\\banother\\b|\\bunlike\\b|\\btwice\\b|\\bdeep\\b|\\bthere are \\d+");

    /** What stands ahead of all promises, but for what only sums it up, then each promise. */
    private final List<String> parts = new ArrayList<>();
    private final List<BitSet> named = new ArrayList<>();

    Document(String path) throws Exception {
        String all = Files.readString(Path.of(path)).replaceAll("(?s)```text(.*?)```", "$1");
        String told = all.substring(all.indexOf("An object is used"), all.indexOf("## Not promised"));
        for (String part : told.split("## Promise \\d+: \\w+")) {
            parts.add(part.replaceAll("\\s+", " "));
            named.add(new BitSet());
        }
    }

    int promises() {
        return parts.size() - 1;
    }

    /** Whether those words stand once in that promise, or else once ahead of all of them. */
    boolean name(int promise, String words) {
        return promise > 0 && promise < parts.size() && (mark(promise, words) || mark(0, words));
    }

    private boolean mark(int part, String words) {
        int at = parts.get(part).indexOf(words);
        if (at < 0 || parts.get(part).indexOf(words, at + 1) >= 0) return false;
        named.get(part).set(at, at + words.length());
        return true;
    }

    /** Boundary cases of which no test has named the words. */
    List<String> unnamed() {
        List<String> found = new ArrayList<>();
        for (int i = 0; i < parts.size(); i++) {
            Matcher m = EDGE.matcher(withoutCode(parts.get(i)));
            while (m.find()) {
                if (named.get(i).nextClearBit(m.start()) < m.end()) found.add("promise " + i + ": " + around(parts.get(i), m.start(), m.end()));
            }
        }
        return found;
    }

    private static String withoutCode(String part) {
        StringBuilder s = new StringBuilder(part);
        boolean code = false;
        for (int i = 0; i < s.length(); i++) {
            if (s.charAt(i) == '`') code = !code;
            else if (code) s.setCharAt(i, '.');
        }
        return s.toString();
    }

    private static String around(String part, int from, int to) {
        return part.substring(Math.max(0, from - 40), from) + "[" + part.substring(from, to) + "]" + part.substring(to, Math.min(part.length(), to + 30));
    }
}
