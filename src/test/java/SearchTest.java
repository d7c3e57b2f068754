import java.lang.management.ManagementFactory;

/** The dearest searches for a match: that they end, with the right answer, and that they leave nothing behind. */
public final class SearchTest {
    private static final int CALLS = 512;
    /** Far below the room of a run, which is some 600,000 objects; what 512 calls keep is some 1,000 of them. */
    private static final long BYTES = 200_000;

    private static int wrong = 0;

    private static void due(String what, long got, long want) {
        if (got != want) {
            wrong++;
            System.out.println(what + " answered " + got + ", due is " + want);
        }
    }

    private static long allocated() {
        com.sun.management.ThreadMXBean threads = (com.sun.management.ThreadMXBean) ManagementFactory.getThreadMXBean();
        return threads.getThreadAllocatedBytes(Thread.currentThread().getId());
    }

    /** Eighteen players of these roles, the last ones of them again and again, each one a party. */
    private static LobbyMaker singles(int... roles) {
        LobbyMaker x = new LobbyMaker();
        for (int i = 0; i < 18; i++) {
            x.addPlayer(1000, roles[Math.min(i, roles.length - 1)]);
        }
        for (int i = 0; i < 18; i++) {
            x.queue(1 << i);
        }
        return x;
    }

    private static void none(String what, LobbyMaker x) {
        long before = allocated();
        for (int call = 37; call < CALLS; call++) {
            due("make() of " + what, x.make(), LobbyMaker.NONE);
        }
        due("queued() of " + what, x.queued(), 18);
        if (allocated() - before > BYTES) {
            wrong++;
            System.out.println("make() of " + what + " made " + (allocated() - before) + " bytes of objects");
        }
    }

    private static void lastOnes() {
        LobbyMaker x = singles(3, 3, 3, 3, 3, 3, 3, 3, 3, 3, 3, 3, 3, 3, 3, 3, 4, 4);
        due("make() with the two last ones", x.make(), 0);
        due("its players", x.team(0, 0) | x.team(0, 1), 15 + (3 << 16));
        due("team(0, 0)", x.team(0, 0), 3 + (1 << 16));
        due("make()", x.make(), LobbyMaker.NONE);
    }

    /** A hundred parties, and as many matches as they can be in: each match loses the party of its last player. */
    private static void manyMatches() {
        LobbyMaker x = new LobbyMaker();
        long before = allocated();
        for (int i = 0; i < 6; i++) {
            x.addPlayer(1000, 7);
        }
        for (int i = 0; i < 5; i++) {
            x.queue(1 << i);
        }
        for (int i = 0; i < 95; i++) {
            due("queue(32)", x.queue(32), 5 + i);
            due("make()", x.make(), i);
            due("decline(" + i + ", 5)", x.decline(i, 5), i < 5 ? 5 << i : 80);
            due("pass(80)", x.pass(80), 0);
        }
        due("matches()", x.matches(), 95);
        due("queued()", x.queued(), 5);
        if (allocated() - before > BYTES) {
            wrong++;
            System.out.println("95 matches made " + (allocated() - before) + " bytes of objects");
        }
    }

    public static void main(String[] args) {
        none("18 of one role", singles(1));
        none("18 of two roles", singles(3));
        none("17 of two roles and one of all", singles(7, 3));
        none("17 of two roles, the last one of all",
                singles(3, 3, 3, 3, 3, 3, 3, 3, 3, 3, 3, 3, 3, 3, 3, 3, 3, 7));
        none("one of the role 0, the others of the others", singles(1, 6));
        none("two roles by turns", singles(1, 2, 1, 2, 1, 2, 1, 2, 1, 2, 1, 2, 1, 2, 1, 2, 1, 2));
        none("one, the other or both", singles(1, 2, 3, 1, 2, 3, 1, 2, 3, 1, 2, 3, 1, 2, 3, 1, 2, 4));
        lastOnes();
        manyMatches();
        System.out.println(wrong == 0 ? "all answers are as due" : wrong + " answers are not as due");
        if (wrong != 0) {
            System.exit(1);
        }
    }
}
