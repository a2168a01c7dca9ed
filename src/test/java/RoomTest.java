import java.lang.management.ManagementFactory;

/** What 512 calls make must fit into the one room, even if they are the dearest ones. */
public final class RoomTest {
    private static final Checks CHECKS = new Checks();
    // Of the room of 7.3 million fields and elements a tenth, of four bytes each.
    private static final long MOST_BYTES = 730_000L * 4;
    private static final String CAMP = "camp 1 2;calm 3;calm 1;calm 4;kind 9;kind 12;kind 15;kind 18;"
            + "kind 20;kind 30;scout;scout;scout;scout;scout;scout;can 0 0 9;can 3 4 20";
    private static final String RULE = "try hard - skill + others * 2 - badge if calm + next > 3 and"
            + " not [badges > 3 or passed * 2 > tried];try 1 + day % 3 if kind % 2 = scout % 2;try 2";

    public static void main(String[] args) {
        new RoomTest().ask(new FailBadge(), 100);
        for (int which = 0; which < 13; which++) {
            FailBadge badge = new FailBadge();
            long before = made();
            new RoomTest().ask(badge, which);
            long bytes = made() - before;
            CHECKS.due("row of calls " + which + " made " + bytes + " bytes: few enough",
                    bytes <= MOST_BYTES ? 1 : 0, 1);
        }
        CHECKS.close();
    }

    private static long made() {
        com.sun.management.ThreadMXBean threads =
                (com.sun.management.ThreadMXBean) ManagementFactory.getThreadMXBean();
        return threads.getThreadAllocatedBytes(Thread.currentThread().getId());
    }

    private void ask(FailBadge b, int which) {
        Checks.camp(b, CAMP);
        for (int i = 0; i < 6; i++) {
            Checks.rule(b, RULE);
        }
        b.force(0);
        for (int i = 0; i < 440; i++) {
            switch (which) {
                case 0: b.camp(); break;
                case 1: b.rule(); break;
                case 2: b.day(); break;
                case 3: b.attempt(i % 6, i % 5); break;
                case 4: b.ahead(0, 100, 0); break;
                case 5: b.leftOut(30, 0); break;
                case 6: b.row(0, 4, 0); break;
                case 7: b.camps(10, 60, 50, 0); break;
                case 8: b.look(60, 0); break;
                case 9: b.ring(0); break;
                case 10: b.leastLearn(60); break;
                case 11: b.match(0); break;
                case 12: b.image(i % 4); b.back(i % 3); break;
                default: return;
            }
        }
    }
}
