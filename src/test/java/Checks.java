import java.nio.charset.StandardCharsets;

/** Counts what is as due, and says what is not. */
final class Checks {
    interface Call {
        Object now();
    }

    private final String name;
    private String about = "";
    private int right = 0;
    private int wrong = 0;

    Checks(String name) {
        this.name = name;
    }

    void about(String what) {
        about = what;
    }

    void due(String what, Object is, Object due) {
        if (is.equals(due)) {
            right++;
        } else {
            wrong++;
            System.out.println(name + ", " + about + ": " + what + " is " + is + ", due is " + due);
        }
    }

    void is(String what, Call call, Object due) {
        Object is;
        try {
            is = call.now();
        } catch (RuntimeException e) {
            is = e.getClass().getSimpleName();
        }
        due(what, is, due instanceof Class ? ((Class<?>) due).getSimpleName() : due);
    }

    /** Says how it went, and ends with 1, if something was wrong. */
    void end() {
        System.out.println(name + ": " + right + " right, " + wrong + " wrong");
        if (wrong > 0) System.exit(1);
    }

    /** A TAPE that holds those bytes alone. */
    static void tell(VisitingHours x, int... bytes) {
        x.end(0);
        for (int i = 0; i < bytes.length; i += 20) {
            int[] n = new int[5];
            for (int j = 0; j < 20; j++) n[j / 4] = n[j / 4] << 8 | (i + j < bytes.length ? bytes[i + j] & 255 : 0);
            x.feed(n[0], n[1], n[2], n[3], n[4]);
        }
        x.end(bytes.length);
    }

    static void tell(VisitingHours x, String text) {
        byte[] bytes = text.getBytes(StandardCharsets.ISO_8859_1);
        int[] numbers = new int[bytes.length];
        for (int i = 0; i < bytes.length; i++) numbers[i] = bytes[i];
        tell(x, numbers);
    }

    static int ground(VisitingHours x, String text) {
        tell(x, text);
        return x.ground();
    }

    static int law(VisitingHours x, String text) {
        tell(x, text);
        return x.law();
    }

    static VisitingHours with(String ground) {
        VisitingHours x = new VisitingHours();
        ground(x, ground);
        return x;
    }

    static VisitingHours with(String ground, String law) {
        VisitingHours x = with(ground);
        law(x, law);
        return x;
    }
}
