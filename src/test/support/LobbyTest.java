import java.util.Arrays;

/** What the tests share: answers that are compared, calls that must be refused, and lobbies to begin with. */
abstract class LobbyTest {
    static final Class<?> RANGE = IllegalArgumentException.class;
    static final Class<?> STATE = IllegalStateException.class;
    static final Class<?> INDEX = IndexOutOfBoundsException.class;
    static final int LEAST = Integer.MIN_VALUE, MOST = Integer.MAX_VALUE;
    static final int OPERATIONS = 22;

    private static int wrong = 0;
    /** What is being tested, for the texts of what is wrong. */
    private static String subject = "";

    interface Call {
        Object answer();
    }

    static void about(String what) {
        subject = what + ": ";
    }

    static void fail(String what) {
        wrong++;
        System.out.println(subject + what);
    }

    static void due(String call, Object got, Object want) {
        if (!got.equals(want)) {
            fail(call + " answered " + got + ", due is " + want);
        }
    }

    static boolean thrownByItself(RuntimeException e) {
        return e.getStackTrace().length > 0 && e.getStackTrace()[0].getClassName().startsWith("LobbyMaker");
    }

    /** The call throws just this class, and by a throw statement of LobbyMaker. */
    static void refused(String call, Class<?> want, Call run) {
        try {
            fail(call + " answered " + run.answer() + ", due is " + want);
        } catch (RuntimeException e) {
            if (e.getClass() != want || !thrownByItself(e)) {
                fail(call + " threw " + e + ", due is " + want);
            }
        }
    }

    /** A test of its own: if a call of it throws what it should not, the others go on. */
    static void run(String what, Runnable test) {
        about(what);
        try {
            test.run();
        } catch (RuntimeException e) {
            fail("a call threw " + e + " at " + Arrays.toString(e.getStackTrace()));
        }
        subject = "";
    }

    static void end(String good, String bad) {
        System.out.println(wrong == 0 ? good : wrong + " " + bad);
        if (wrong != 0) {
            System.exit(1);
        }
    }

    static LobbyMaker lobby(int[] ratings, int roles) {
        LobbyMaker x = new LobbyMaker();
        for (int rating : ratings) {
            x.addPlayer(rating, roles);
        }
        return x;
    }

    /** Players of one rating who can take every role. */
    static LobbyMaker alike(int players) {
        int[] ratings = new int[players];
        Arrays.fill(ratings, 1000);
        return lobby(ratings, 7);
    }

    /** The parties 0 of the players 0 to 2 and 1 of the players 3 to 5 queue; the player 6 is idle. */
    static LobbyMaker queuing() {
        LobbyMaker x = alike(7);
        queueAll(x, 7, 56);
        return x;
    }

    /** The match 0 waits for the players 0 to 5. */
    static LobbyMaker made() {
        LobbyMaker x = queuing();
        x.make();
        return x;
    }

    static LobbyMaker on() {
        LobbyMaker x = made();
        acceptAll(x, 0, 63);
        return x;
    }

    /** The player 3 has accepted, then 0 has declined. */
    static LobbyMaker off() {
        LobbyMaker x = made();
        x.accept(0, 3);
        x.decline(0, 0);
        return x;
    }

    static LobbyMaker finished() {
        LobbyMaker x = on();
        x.finish(0, 0);
        return x;
    }

    static void queueAll(LobbyMaker x, int... parties) {
        for (int party : parties) {
            x.queue(party);
        }
    }

    static void acceptAll(LobbyMaker x, int match, int players) {
        for (int p = 0; p < 18; p++) {
            if ((players >> p & 1) != 0) {
                x.accept(match, p);
            }
        }
    }

    static int finish(LobbyMaker x, int match, int winner) {
        x.finish(match, winner);
        return 0;
    }

    static void ratingsDue(LobbyMaker x, int... due) {
        for (int i = 0; i < due.length; i++) {
            due("rating(" + i + ")", x.rating(i), due[i]);
        }
    }

    /** The methods of the face by number; a boolean counts 1 or 0. */
    static int answer(LobbyMaker x, int operation, int a, int b) {
        switch (operation) {
            case 0: return x.addPlayer(a, b);
            case 1: return x.queue(a);
            case 2: return x.leave(a);
            case 3: return x.players();
            case 4: return x.state(a);
            case 5: return x.rating(a);
            case 6: return x.uncertainty(a);
            case 7: return x.level(a);
            case 8: return x.barred(a);
            case 9: return x.queued();
            case 10: return x.window(a);
            case 11: return x.fit(a, b) ? 1 : 0;
            case 12: return x.make();
            case 13: return x.accept(a, b) ? 1 : 0;
            case 14: return x.decline(a, b);
            case 15: return finish(x, a, b);
            case 16: return x.matches();
            case 17: return x.matchState(a);
            case 18: return x.team(a, b);
            case 19: return x.unevenness(a);
            case 20: return x.pass(a);
            default: return x.clock();
        }
    }
}
