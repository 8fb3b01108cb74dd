import java.util.Collections;
import java.util.NoSuchElementException;
import java.util.Set;
import java.util.TreeSet;

/** What the tests of boundary cases share. Each of them names a promise and the words of the document that it holds. */
abstract class Bounds {
    static final Checks T = new Checks("BoundsTest");
    static final Class<?> INDEX = IndexOutOfBoundsException.class;
    static final Class<?> ARGUMENT = IllegalArgumentException.class;
    static final Class<?> STATE = IllegalStateException.class;
    static final Class<?> ELEMENT = NoSuchElementException.class;
    static final Class<?> FULL = UnsupportedOperationException.class;
    static final int NONE = VisitingHours.NONE;
    static final int MIN = Integer.MIN_VALUE;
    static final int MAX = Integer.MAX_VALUE;
    static final String HOST = "host patience 9 from 0 to 7";
    static final String GUEST = "guest stay 1 from 0 to 7";
    /** All words that some text of THE GROUND or THE LAW may have, but for MARKS. */
    static final String[] WORDS = {"host", "guest", "likes", "loves", "rain", "week", "needs", "bars", "patience", "from", "to", "stay", "marks",
        "glad", "sour", "admit", "if", "or", "and", "not", "marked", "expected", "quarter", "lonely", "rank", "loved"};
    static final Set<Integer> NAMED = new TreeSet<>();
    private static Document document;

    interface Numbers {
        Object of(int n);
    }

    static void read(Document told) {
        document = told;
    }

    /** All that is looked at from here on holds these words of the document, which that promise stands on. */
    static void holds(int promise, String words) {
        T.about("promise " + promise + ", «" + words + "»");
        T.due("these words in the document", document.name(promise, words), true);
        NAMED.add(promise);
    }

    static String repeat(String s, int many, String between) {
        return String.join(between, Collections.nCopies(many, s));
    }

    static String lines(String line, int many) {
        return repeat(line, many, ";");
    }

    /** HOSTS of PATIENCE 9 and GUESTS of STAY 1, all of them of all QUARTERS; none of one sort is an empty text. */
    static VisitingHours some(int hosts, int guests) {
        VisitingHours x = Checks.with(lines(HOST, hosts));
        Checks.ground(x, lines(GUEST, guests));
        return x;
    }

    /** Words that are nearly that one: other letters at its ends, one more, one less. */
    static String[] nearly(String word) {
        String behind = word.substring(1);
        String ahead = word.substring(0, word.length() - 1);
        return new String[] {"x" + behind, ahead + "x", "x" + word, word + "x", behind, ahead, word + word};
    }

    /** What is asked about each of the numbers throws that. */
    static void allThrow(String what, Numbers asked, Class<?> due, int... numbers) {
        for (int n : numbers) T.is(what + " of " + n, () -> asked.of(n), due);
    }

    static void wrongGround(VisitingHours x, String text, int at) {
        T.is("the ground «" + text + "»", () -> Checks.ground(x, text), ARGUMENT);
        T.is("fault of «" + text + "»", x::fault, at);
    }

    static void wrongLaw(VisitingHours x, String text, int at) {
        T.is("the law «" + text + "»", () -> Checks.law(x, text), ARGUMENT);
        T.is("fault of «" + text + "»", x::fault, at);
    }

    /** How many bytes the TAPE has; none are left. */
    static int tapeLength(VisitingHours x) {
        int fed = x.feed(0, 0, 0, 0, 0);
        for (int n = fed == NONE ? 400 : fed - 20; n >= 0; n--) {
            if (x.end(n)) {
                x.end(0);
                return n;
            }
        }
        return NONE;
    }
}
