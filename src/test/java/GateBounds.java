/** Promises 30 to 32: RULES, SEND and HAND. */
final class GateBounds extends Bounds {
    static void all() {
        rulesOfNone();
        rulesOfMarks();
        rulesPlain();
        rulesFull();
        rulesRefused();
        sendParts();
        sendNone();
        sendRefused();
        handOfNone();
        handOfSome();
        handOfLikeRanks();
        handRefused();
    }

    private static int rules(boolean plain, int... rows) {
        VisitingHours x = new VisitingHours();
        Checks.tell(x, rows);
        int many = x.rules(plain);
        T.due("the tape", x.end(1), false);
        return many;
    }

    private static int send(int... rows) {
        VisitingHours x = new VisitingHours();
        Checks.tell(x, rows);
        int who = x.send();
        T.due("the tape", x.end(1), false);
        return who;
    }

    private static int hand(VisitingHours x, boolean many, int... row) {
        Checks.tell(x, row);
        int answer = x.hand(many);
        T.due("the tape", x.end(1), false);
        return answer;
    }

    private static void rulesOfNone() {
        holds(30, "pairs of sets of MARKS, those that must be there and those that must not (no MARK in both) that fit: how many;");
        T.is("none told", () -> rules(false), 729);
        T.is("all marks let in", () -> rules(false, 63, 1), 64);
        T.is("no marks let in", () -> rules(false, 0, 1), 64);
        T.is("both let in", () -> rules(false, 63, 1, 0, 1), 1);
        T.is("no marks not let in", () -> rules(false, 0, 0), 665);
        T.is("all marks not let in", () -> rules(false, 63, 0), 665);
        T.is("neither let in", () -> rules(false, 0, 0, 63, 0), 602);
        T.is("let in and not", () -> rules(false, 9, 1, 9, 0), 0);
        T.is("the same again", () -> rules(false, 9, 1, 9, 1), 64);
    }

    private static void rulesOfMarks() {
        holds(30, "RULES: told are rows: MARKS (0 to 63) of one and whether it was LET IN (1) or not (0), by an unknown GATE");
        for (int m = 0; m < 64; m++) {
            int marks = m;
            T.is("let in with " + m, () -> rules(false, marks, 1), 64);
            T.is("not let in with " + m, () -> rules(false, marks, 0), 665);
        }
        VisitingHours y = new VisitingHours();
        for (int i = 0; i < 3; i++) {
            Checks.tell(y, 63, 1);
            T.is("the same asked again", () -> y.rules(false), 64);
            T.is("none told behind it", () -> y.rules(false), 729);
            Checks.tell(y, 0, 0, 0, 1);
            T.is("none fits", () -> y.rules(false), 0);
        }
        VisitingHours x = some(1, 1);
        x.gate(5, 2);
        Checks.law(x, "admit");
        Checks.tell(x, 0, 1);
        T.is("the gate and the law of now are not looked at", () -> x.rules(false), 64);
    }

    private static void rulesPlain() {
        holds(30, "PLAIN: the fewest MARKS in both together by which one fits; none;");
        T.is("none told", () -> rules(true), 0);
        T.is("all let in", () -> rules(true, 0, 1, 63, 1), 0);
        T.is("one not let in", () -> rules(true, 0, 0), 1);
        T.is("neither", () -> rules(true, 0, 0, 63, 0), 2);
        T.is("all marks must be there", () -> rules(true, 63, 1, 62, 0, 61, 0, 59, 0, 55, 0, 47, 0, 31, 0), 6);
        T.is("no mark must be there", () -> rules(true, 0, 1, 1, 0, 2, 0, 4, 0, 8, 0, 16, 0, 32, 0), 6);
        T.is("none fits", () -> rules(true, 0, 1, 0, 0), NONE);
        T.is("how many, if none fits", () -> rules(false, 0, 1, 0, 0), 0);
    }

    private static void rulesFull() {
        holds(30, "RULES (of each two bytes: MARKS, 1 or 0; at most 40 bytes): how many (plain false), or PLAIN; NONE.");
        int[] rows = new int[40];
        for (int i = 0; i < 40; i += 2) {
            rows[i] = 63;
            rows[i + 1] = 1;
        }
        T.is("40 bytes", () -> rules(false, rows), 64);
        rows[39] = 0;
        T.is("the last one counts", () -> rules(false, rows), 0);
        T.is("the last one counts", () -> rules(true, rows), NONE);
        T.is("42 bytes", () -> rules(false, new int[42]), ARGUMENT);
        T.is("41 bytes", () -> rules(false, new int[41]), ARGUMENT);
        T.is("400 bytes", () -> rules(false, new int[400]), ARGUMENT);
    }

    private static final int[][] WRONG = {{0}, {0, 0, 0}, {64, 0}, {255, 1}, {128, 0}, {0, 2}, {0, 255}, {1, 1, 64, 1}, {1, 1, 1, 2}, new int[39], new int[41], new int[42]};

    private static void rulesRefused() {
        holds(30, "IllegalArgumentException: the TAPE is not that (none may be told).");
        for (int[] rows : WRONG) {
            VisitingHours x = new VisitingHours();
            Checks.tell(x, rows);
            T.is("rows of " + rows.length + " bytes", () -> x.rules(false), ARGUMENT);
            T.is("its tape", () -> x.end(1), false);
            Checks.tell(x, rows);
            T.is("plain, rows of " + rows.length + " bytes", () -> x.rules(true), ARGUMENT);
        }
        T.is("the greatest that are right", () -> rules(false, 63, 1, 62, 0), 32);
    }

    private static void sendParts() {
        holds(31, "SEND: the MARKS (0 to 63) by which those that fit are parted (let in, or not) so that the greater part is the least (of several the least; none with fewer than two).");
        T.is("none told", () -> send(), 0);
        T.is("two that fit", () -> send(63, 1, 62, 0, 61, 0, 59, 0, 55, 0, 47, 0), 31);
        T.is("two that only the greatest parts", () -> send(62, 1, 60, 0, 58, 0, 54, 0, 46, 0, 30, 0), 63);
        T.is("two that the least parts", () -> send(1, 1, 3, 0, 5, 0, 9, 0, 17, 0, 33, 0), 0);
        T.is("64 that fit, half of them", () -> send(0, 1), 1);
        T.is("64 that fit, half of them", () -> send(63, 1), 31);
    }

    private static void sendNone() {
        holds(31, "SEND (the TAPE likewise); NONE.");
        T.is("one that fits", () -> send(63, 1, 0, 1), NONE);
        T.is("none that fits", () -> send(0, 1, 0, 0), NONE);
        int[] rows = new int[40];
        T.is("40 bytes", () -> send(rows), send(0, 0));
    }

    private static void sendRefused() {
        holds(31, "IllegalArgumentException: the TAPE is not that.");
        for (int[] rows : WRONG) {
            VisitingHours x = new VisitingHours();
            Checks.tell(x, rows);
            T.is("rows of " + rows.length + " bytes", x::send, ARGUMENT);
            T.is("its tape", () -> x.end(1), false);
        }
    }

    private static void handOfNone() {
        holds(32, "WRITER: the HOST with the fewest (of several the least; none without HOSTS); how many.");
        VisitingHours x = some(8, 8);
        T.is("none told: the least", () -> hand(x, false), 0);
        T.is("none told: how many", () -> hand(x, true), 0);
        holds(32, "HAND (a byte for each GUEST): the WRITER (many false; NONE), or how many (0 without HOSTS).");
        T.is("without hosts", () -> hand(some(0, 2), false, 1, 0), NONE);
        T.is("without hosts: how many", () -> hand(some(0, 2), true, 1, 0), 0);
        T.is("without anybody", () -> hand(new VisitingHours(), false), NONE);
        T.is("without anybody: how many", () -> hand(new VisitingHours(), true), 0);
        T.is("without guests", () -> hand(some(3, 0), false), 0);
        Checks.ground(x, "likes 6 00000009;likes 7 00000009");
        T.is("of several the least", () -> hand(x, false, 7, 0), 0);
        for (int h = 0; h < 6; h++) x.value(h, 0, true, 9);
        T.is("the fewest", () -> hand(x, false, 7, 0), 6);
        x.value(6, 0, true, 9);
        T.is("like ranks are not the wrong way round", () -> hand(x, false, 7, 0), 6);
        x.value(6, 7, true, 8);
        T.is("the last host", () -> hand(x, false, 7, 0), 7);
    }

    private static void handOfSome() {
        holds(32, "HAND: told is a row of GUESTS, unlike ones (a list at the gate): of each HOST how many pairs of these stand in it the wrong way round");
        VisitingHours x = some(1, 8);
        Checks.ground(x, "likes 0 12345678");
        T.is("all the wrong way round", () -> hand(x, true, 0, 1, 2, 3, 4, 5, 6, 7), 28);
        T.is("all the right way round", () -> hand(x, true, 7, 6, 5, 4, 3, 2, 1, 0), 0);
        T.is("one", () -> hand(x, true, 3), 0);
        T.is("some", () -> hand(x, true, 0, 7), 1);
        T.is("some", () -> hand(x, true, 2, 7, 5), 2);
        x.value(0, 0, true, 0);
        T.is("a rank of 0 is the least", () -> hand(x, true, 0, 1), 1);
        x.value(0, 0, true, 9);
        T.is("what is not told is not looked at", () -> hand(x, true, 3), 0);
        T.is("what was told before is not looked at", () -> hand(x, true, 5, 4), 0);
    }

    private static void handOfLikeRanks() {
        holds(32, "(the one of the lesser RANK by it ahead of the one of the greater RANK)");
        VisitingHours x = some(1, 8);
        T.is("of like ranks", () -> hand(x, true, 0, 1, 2, 3, 4, 5, 6, 7), 0);
        T.is("of like ranks", () -> hand(x, true, 7, 6, 5, 4, 3, 2, 1, 0), 0);
        x.value(0, 7, true, 6);
        T.is("one greater one", () -> hand(x, true, 0, 1, 2, 3, 4, 5, 6, 7), 7);
        x.value(0, 0, false, 9);
        T.is("ranks by the guest are not looked at", () -> hand(x, true, 7, 0), 0);
    }

    private static void handRefused() {
        holds(32, "IllegalArgumentException: the TAPE is not that (none may be told).");
        VisitingHours x = some(2, 3);
        int[][] wrong = {{3}, {255}, {0, 0}, {0, 1, 2, 0}, {0, 1, 1}, {0, 1, 2, 3}, {2, 128}, new int[400]};
        for (int[] row : wrong) {
            for (boolean many : new boolean[] {false, true}) {
                Checks.tell(x, row);
                T.is("a row of " + row.length, () -> x.hand(many), ARGUMENT);
                T.is("its tape", () -> x.end(1), false);
            }
        }
        T.is("the last guest", () -> hand(x, true, 2, 0, 1), 0);
        T.is("a guest of none", () -> hand(some(2, 0), true, 0), ARGUMENT);
    }
}
