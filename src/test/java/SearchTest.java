import java.lang.management.ManagementFactory;

/** The dearest searches for a match: that they end, with the right answer, and that they leave nothing behind. */
public final class SearchTest extends LobbyTest {
    private static final int CALLS = 512;
    /** Far below the room of a run, which is some 600,000 objects; what 512 calls keep is some 1,000 of them. */
    private static final long BYTES = 100_000;

    private static long allocated() {
        com.sun.management.ThreadMXBean threads = (com.sun.management.ThreadMXBean) ManagementFactory.getThreadMXBean();
        return threads.getThreadAllocatedBytes(Thread.currentThread().getId());
    }

    /** Eighteen players of these roles, the last ones of them again and again, each one a party. */
    private static LobbyMaker singles(int... roles) {
        LobbyMaker x = new LobbyMaker();
        for (int i = 0; i < 18; i++) {
            x.addPlayer(1000, roles[Math.min(i, roles.length - 1)]);
        }
        for (int i = 0; i < 18; i++) {
            x.queue(1 << i);
        }
        return x;
    }

    private static void roomKept(String what, long before) {
        long bytes = allocated() - before;
        if (bytes > BYTES) {
            fail(what + " made " + bytes + " bytes of objects");
        }
    }

    private static void none(String what, LobbyMaker x) {
        int found = 0;
        long before = allocated();
        for (int call = 37; call < CALLS; call++) {
            found += x.make() == LobbyMaker.NONE ? 0 : 1;
        }
        roomKept("make() of " + what, before);
        due("make() of " + what + ", how often it is not NONE,", found, 0);
        due("queued() of " + what, x.queued(), 18);
    }

    private static void lastOnes() {
        LobbyMaker x = singles(3, 3, 3, 3, 3, 3, 3, 3, 3, 3, 3, 3, 3, 3, 3, 3, 4, 4);
        due("make() with the two last ones", x.make(), 0);
        due("its players", x.team(0, 0) | x.team(0, 1), 15 + (3 << 16));
        due("team(0, 0)", x.team(0, 0), 3 + (1 << 16));
        due("make()", x.make(), LobbyMaker.NONE);
    }

    /** A hundred parties, and as many matches as they can be in: each match loses the party of its last player. */
    private static void manyMatches() {
        int[] made = new int[95];
        int[] bars = new int[95];
        long before = allocated();
        LobbyMaker x = alike(6);
        queueAll(x, 1, 2, 4, 8, 16);
        for (int i = 0; i < 95; i++) {
            x.queue(32);
            made[i] = x.make();
            bars[i] = x.decline(made[i], 5);
            x.pass(80);
        }
        roomKept("95 matches", before);
        for (int i = 0; i < 95; i++) {
            due("make()", made[i], i);
            due("decline(" + i + ", 5)", bars[i], i < 5 ? 5 << i : 80);
        }
        due("matches()", x.matches(), 95);
        due("queued()", x.queued(), 5);
    }

    public static void main(String[] args) {
        none("18 of one role", singles(1));
        none("18 of two roles", singles(3));
        none("17 of two roles and one of all", singles(7, 3));
        none("17 of two roles, the last one of all",
                singles(3, 3, 3, 3, 3, 3, 3, 3, 3, 3, 3, 3, 3, 3, 3, 3, 3, 7));
        none("one of the role 0, the others of the others", singles(1, 6));
        none("two roles by turns", singles(1, 2, 1, 2, 1, 2, 1, 2, 1, 2, 1, 2, 1, 2, 1, 2, 1, 2));
        none("one, the other or both", singles(1, 2, 3, 1, 2, 3, 1, 2, 3, 1, 2, 3, 1, 2, 3, 1, 2, 4));
        lastOnes();
        manyMatches();
        end("all answers are as due", "answers are not as due");
    }
}
