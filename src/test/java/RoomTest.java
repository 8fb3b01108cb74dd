import java.lang.management.ManagementFactory;

/** The room that calls take: all calls of a run live in one room of some 600,000 objects and 7.3 million elements. */
public final class RoomTest {
    private static final Checks T = new Checks("RoomTest");
    private static final com.sun.management.ThreadMXBean THREADS = (com.sun.management.ThreadMXBean) ManagementFactory.getThreadMXBean();
    private static VisitingHours held;

    interface Work {
        void go(VisitingHours x);
    }

    public static void main(String[] args) {
        T.about("room");
        for (int i = 0; i < 2000; i++) held = new VisitingHours();
        long before = bytes();
        held = new VisitingHours();
        T.due("a new object", bytes() - before < 150_000, true);
        StringBuilder law = new StringBuilder("admit if 1<2");
        while (law.length() < 398) law.append("+1");
        room("a law", x -> {
            Checks.tell(x, law.toString());
            x.law();
        }, 12_000);
        room("a ground", x -> {
            x.end(0);
            x.feed(0x7261696e, 0x20323020, 0x20202020, 0x20202020, 0x20202020);
            try {
                x.ground();
            } catch (UnsupportedOperationException e) {
                held = x;
            }
        }, 1000);
        room("reads", x -> {
            for (int i = 0; i < 12; i++) x.count(i);
            x.meetings(true);
            x.ways();
            x.hostBest(0);
            x.guestBest(7);
            x.row(0, 255, true);
            x.afternoon(0, 7);
            x.lend(7);
            x.dry();
            x.saved(0, 255);
            x.rules(false);
            x.send();
            x.hand(false);
            x.odds(7, 3);
            x.waits(8, 0);
            x.treaty(0, 1);
            x.rests(0, 0);
            x.dearest();
            x.forlorn();
            x.alike();
            x.settle(0);
            x.gladder(60);
            x.ahead(0, 60, 0);
            x.trial(60, true);
            x.span(60, true);
            x.led(0, true);
            x.log(0, 0);
        }, 0);
        room("acts", x -> {
            x.mark(0, 1);
            x.gate(1, 0);
            x.value(0, 0, true, 7);
            x.change(0, 1, 1);
            x.book(0, 0, 0);
            x.strike(0, 0);
            x.weeks(60);
            x.image();
            x.undo();
            x.back();
        }, 0);
        T.end();
    }

    private static long bytes() {
        return THREADS.getCurrentThreadAllocatedBytes();
    }

    private static void room(String what, Work work, long most) {
        VisitingHours x = new VisitingHours();
        for (int i = 0; i < 8; i++) Checks.ground(x, "host patience 1 from 0 to 7;guest stay 1 from 0 to 7");
        for (int i = 0; i < 20; i++) work.go(x);
        long least = Long.MAX_VALUE;
        for (int i = 0; i < 10; i++) {
            long before = bytes();
            work.go(x);
            least = Math.min(least, bytes() - before);
        }
        T.due(what + " takes " + least + " bytes, " + most + " at most", least <= most, true);
    }
}
