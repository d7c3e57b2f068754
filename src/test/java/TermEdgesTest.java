import java.io.IOException;
import java.io.UncheckedIOException;
import java.nio.file.Files;
import java.nio.file.Path;

/** The edges of the document's terms: what is just within each sentence of them, and what is just beyond. */
public final class TermEdgesTest extends DocTest {
    private static final int[] STRANGE = {LEAST, -33, -32, -1, 0, 1, 2, 3, 7, 8, 15, 18, 31, 32, 64, 99, 100, 1001, 1 << 18,
        MOST};

    private static LobbyMaker withHundredParties() {
        LobbyMaker x = queuing();
        for (int party = 2; party < 100; party++) {
            x.queue(64);
            x.leave(party);
        }
        return x;
    }

    private static LobbyMaker atTheEnd() {
        LobbyMaker x = alike(18);
        for (int i = 0; i < 99; i++) {
            x.pass(1000);
        }
        x.pass(999);
        queueAll(x, 7, 56, 64);
        x.make();
        x.pass(1);
        return x;
    }

    /** A match of the players 0 to 2 against the players 3 to 5, who wait for so long that any ratings fit. */
    private static LobbyMaker playing(int... ratings) {
        LobbyMaker x = lobby(ratings, 7);
        queueAll(x, 7, 56);
        x.pass(1000);
        playAgain(x, 0);
        return x;
    }

    private static void playAgain(LobbyMaker x, int match) {
        due("make()", x.make(), match);
        acceptAll(x, match, 63);
    }

    // ---- Terms

    private static void aRunOfAll() {
        LobbyMaker x = queuing();
        due("queued()", x.queued(), 2);
        x.pass(1);
        due("make()", x.make(), 0);
        acceptAll(x, 0, 63);
        x.finish(0, 1);
        due("queue(7)", x.queue(7), 2);
        due("queue(56)", x.queue(56), 3);
        due("make()", x.make(), 1);
        due("decline(1, 5)", x.decline(1, 5), 5);
        due("queued()", x.queued(), 1);
        due("matches()", x.matches(), 2);
        due("rating(0)", x.rating(0), 978);
    }

    private static void timeFromZero() {
        LobbyMaker x = made();
        due("clock()", x.clock(), 0);
        x.queue(64);
        due("window(2) at the minute 0", x.window(2), 100);
        due("pass(2)", x.pass(2), 0);
        due("clock()", x.clock(), 2);
        due("pass(1), of a match of the minute 0", x.pass(1), 1);
        due("leave(2), of a party of the minute 0", x.leave(2), 3);
    }

    private static void firstListedException() {
        LobbyMaker full = alike(18);
        refused("addPlayer(-1, 7) of 18", RANGE, () -> full.addPlayer(-1, 7));
        refused("addPlayer(1000, 0) of 18", RANGE, () -> full.addPlayer(1000, 0));
        LobbyMaker x = off();
        refused("queue(1 + 128), barred and none", RANGE, () -> x.queue(1 + 128));
        refused("queue(15), one barred and one queuing of four", RANGE, () -> x.queue(15));
        refused("queue(8 + 128), queuing and none", RANGE, () -> x.queue(8 + 128));
        refused("fit(0, 2), which does not queue, and none", INDEX, () -> x.fit(0, 2));
        refused("fit(2, 0), none, and which does not queue", INDEX, () -> x.fit(2, 0));
        LobbyMaker hundred = withHundredParties();
        refused("queue(0) after a hundred", RANGE, () -> hundred.queue(0));
        refused("queue(128) after a hundred", RANGE, () -> hundred.queue(128));
        for (LobbyMaker y : new LobbyMaker[] {on(), off(), finished()}) {
            refused("accept(0, 7) of a match that does not wait", INDEX, () -> y.accept(0, 7));
            refused("decline(0, 7) of a match that does not wait", INDEX, () -> y.decline(0, 7));
            refused("accept(1, 6), no match, and in none", INDEX, () -> y.accept(1, 6));
            refused("decline(1, 6), no match, and in none", INDEX, () -> y.decline(1, 6));
        }
        for (LobbyMaker y : new LobbyMaker[] {made(), off(), finished()}) {
            refused("finish(0, 2) of a match that does not go on", RANGE, () -> finish(y, 0, 2));
            refused("finish(1, 2) of no match", INDEX, () -> finish(y, 1, 2));
            refused("team(1, 2) of no match", INDEX, () -> y.team(1, 2));
        }
        LobbyMaker last = atTheEnd();
        refused("pass(1001) at the end", RANGE, () -> last.pass(1001));
        refused("pass(0) at the end", RANGE, () -> last.pass(0));
    }

    private static LobbyMaker inState(int state) {
        switch (state) {
            case 0: return new LobbyMaker();
            case 1: return alike(18);
            case 2: return queuing();
            case 3: return made();
            case 4: return on();
            case 5: return off();
            case 6: return finished();
            case 7: return withHundredParties();
            default: return atTheEnd();
        }
    }

    /** What can be asked for, and then what comes of it when time passes and a match is made. */
    private static String allAnswers(LobbyMaker x) {
        StringBuilder all = new StringBuilder();
        answersTo(x, all);
        told(x, 1, 64, 0, all);
        told(x, 1, 2, 0, all);
        told(x, 12, 0, 0, all);
        told(x, 20, 3, 0, all);
        told(x, 0, 1234, 5, all);
        answersTo(x, all);
        return all.toString();
    }

    private static void answersTo(LobbyMaker x, StringBuilder all) {
        for (int operation : new int[] {3, 9, 16, 21}) {
            told(x, operation, 0, 0, all);
        }
        for (int operation : new int[] {4, 5, 6, 7, 8}) {
            for (int player = 0; player < Math.min(8, x.players()); player++) {
                told(x, operation, player, 0, all);
            }
        }
        for (int party = 0; party < 4; party++) {
            told(x, 10, party, 0, all);
            told(x, 11, 1, party, all);
        }
        for (int match = 0; match < x.matches(); match++) {
            told(x, 17, match, 0, all);
            told(x, 18, match, 0, all);
            told(x, 18, match, 1, all);
            told(x, 19, match, 0, all);
        }
    }

    private static void told(LobbyMaker x, int operation, int a, int b, StringBuilder all) {
        try {
            all.append(answer(x, operation, a, b));
        } catch (RuntimeException e) {
            all.append(e.getClass().getSimpleName());
        }
        all.append(' ');
    }

    private static void refusedCallsChangeNothing() {
        int refused = 0;
        for (int state = 0; state < 9; state++) {
            String untouched = allAnswers(inState(state));
            for (int operation = 0; operation < OPERATIONS; operation++) {
                for (int a : STRANGE) {
                    for (int b : STRANGE) {
                        LobbyMaker x = inState(state);
                        if (throwsInstead(x, operation, a, b)) {
                            refused++;
                            due("after the call " + operation + " of " + a + ", " + b + " in the state " + state
                                    + ", which throws, all", allAnswers(x), untouched);
                        }
                    }
                }
            }
        }
        due("some calls throw", refused > 10000, true);
    }

    private static boolean throwsInstead(LobbyMaker x, int operation, int a, int b) {
        try {
            answer(x, operation, a, b);
            return false;
        } catch (RuntimeException e) {
            return true;
        }
    }

    private static void roundedDown() {
        LobbyMaker x = lobby(new int[] {1000, 1001, 900, 1101, 1000, 1000, 1002}, 7);
        queueAll(x, 3, 4, 8, 16 + 32 + 64);
        due("fit of 1000 and a half with 900", x.fit(0, 1), true);
        due("fit of 1000 and a half with 1101", x.fit(0, 2), false);
        due("fit of 1000 and two thirds with 900", x.fit(3, 1), true);
        due("fit of 1000 and two thirds with 1101", x.fit(3, 2), false);
        // 350 * 500 / 8000 is 21.875.
        LobbyMaker y = playing(1000, 1000, 1000, 1000, 1000, 1000);
        y.finish(0, 0);
        ratingsDue(y, 1021, 1021, 1021, 978, 978, 978);
        // 350 * 480 / 8000 is 21: no rest, and nothing to round.
        LobbyMaker z = playing(1020, 1020, 1020, 1000, 1000, 1000);
        z.finish(0, 0);
        ratingsDue(z, 1041, 1041, 1041, 979, 979, 979);
    }

    // ---- Players and parties

    private static void eighteenPlayers() {
        LobbyMaker x = new LobbyMaker();
        for (int i = 0; i < 18; i++) {
            due("addPlayer", x.addPlayer(100 * i, 7), i);
        }
        refused("addPlayer, the 19th", STATE, () -> x.addPlayer(1000, 7));
        due("players()", x.players(), 18);
        due("rating(0)", x.rating(0), 0);
        due("rating(17)", x.rating(17), 1700);
        refused("rating(18)", INDEX, () -> x.rating(18));
        due("queue of the last one", x.queue(1 << 17), 0);
        due("state(17)", x.state(17), LobbyMaker.QUEUING);
    }

    private static void firstValues() {
        LobbyMaker x = alike(18);
        for (int p = 0; p < 18; p++) {
            due("uncertainty(" + p + ")", x.uncertainty(p), 350);
            due("level(" + p + ")", x.level(p), 0);
            due("state(" + p + ")", x.state(p), LobbyMaker.IDLE);
            due("barred(" + p + ")", x.barred(p), 0);
        }
    }

    private static void statesAndBars() {
        LobbyMaker x = off();
        due("state(0), barred", x.state(0), LobbyMaker.IDLE);
        due("state(3)", x.state(3), LobbyMaker.QUEUING);
        due("state(0) in a match", on().state(0), LobbyMaker.IN_MATCH);
        x.pass(4);
        due("barred(0) in the last minute", x.barred(0), 1);
        refused("queue(1) in the last minute", STATE, () -> x.queue(1));
        x.pass(1);
        due("barred(0) at the time", x.barred(0), 0);
        due("queue(1) at the time", x.queue(1), 2);
        due("state(0)", x.state(0), LobbyMaker.QUEUING);
    }

    private static void hundredParties() {
        LobbyMaker x = withHundredParties();
        refused("queue(64), the 101st", STATE, () -> x.queue(64));
        refused("window(99), left", STATE, () -> x.window(99));
        refused("window(100)", INDEX, () -> x.window(100));
        due("make() of the hundred", x.make(), 0);
        due("decline(0, 0)", x.decline(0, 0), 5);
        due("window(1), which queues again", x.window(1), 100);
        refused("queue(4), idle again", STATE, () -> x.queue(4));
        LobbyMaker y = off();
        refused("queue(1), barred", STATE, () -> y.queue(1));
        refused("queue(0)", RANGE, () -> y.queue(0));
        due("queue(2), after two parties and calls that threw", y.queue(2), 2);
        due("leave(2)", y.leave(2), 0);
        due("queue(2) again", y.queue(2), 3);
    }

    private static void partyRatings() {
        LobbyMaker x = lobby(new int[] {4000, 0, 1, 0, 0, 2, 100, 101}, 7);
        queueAll(x, 1, 2 + 4, 8 + 16 + 32, 64, 128);
        due("fit of 0 (1 by two) with 100", x.fit(1, 3), true);
        due("fit of 0 (1 by two) with 101", x.fit(1, 4), false);
        due("fit of 0 (2 by three) with 100", x.fit(2, 3), true);
        due("fit of 0 (2 by three) with 101", x.fit(2, 4), false);
        due("fit of 4000 with 101", x.fit(0, 4), false);
        refused("queue of four", RANGE, () -> x.queue(15));
        refused("queue of none", RANGE, () -> x.queue(0));
        // The rating of the player 0 goes from 1000 to 1021, and to 1121 it is 100 then.
        LobbyMaker y = lobby(new int[] {1000, 1000, 1000, 1000, 1000, 1000, 1121, 1122}, 7);
        queueAll(y, 7, 56);
        playAgain(y, 0);
        y.finish(0, 0);
        queueAll(y, 1, 64, 128);
        due("fit of 1021 with 1121", y.fit(2, 3), true);
        due("fit of 1021 with 1122", y.fit(2, 4), false);
    }

    private static void windows() {
        LobbyMaker x = alike(2);
        x.queue(1);
        due("window(0), just queued", x.window(0), 100);
        x.pass(1);
        due("window(0) after a minute", x.window(0), 120);
        for (int i = 0; i < 99; i++) {
            x.pass(1000);
        }
        x.pass(999);
        due("window(0) after all minutes", x.window(0), 2000100);
        x.queue(2);
        due("window(1) in the last minute", x.window(1), 100);
    }

    private static void orderOfTheQueue() {
        LobbyMaker x = made();
        x.addPlayer(1000, 7);
        x.addPlayer(1000, 7);
        queueAll(x, 64 + 128 + 256);
        x.decline(0, 0);
        due("make()", x.make(), 1);
        due("team(1, 0): the party 1 goes before 2, though it queues again", x.team(1, 0), 56);
        due("team(1, 1)", x.team(1, 1), 64 + 128 + 256);
    }

    // ---- Matches

    private static void makes(String what, int want, int... parties) {
        LobbyMaker x = alike(18);
        queueAll(x, parties);
        int match = x.make();
        due(what + ": make()", match, want == 0 ? LobbyMaker.NONE : 0);
        if (match == 0) {
            due(what + ": both teams", x.team(0, 0) + x.team(0, 1), want);
            due(what + ": team 0", Integer.bitCount(x.team(0, 0)), 3);
            due(what + ": team 1", Integer.bitCount(x.team(0, 1)), 3);
        }
    }

    private static void sixPlayers() {
        makes("none", 0);
        makes("five", 0, 1, 2, 4, 8, 16);
        makes("six", 63, 1, 2, 4, 8, 16, 32);
        makes("six of seven", 63, 1, 2, 4, 8, 16, 32, 64);
        makes("two and three", 0, 3, 28);
        makes("two, two and two", 0, 3, 12, 48);
        makes("two, three and two", 0, 3, 28, 96);
        makes("two, three, two and one", 31 + 128, 3, 28, 96, 128);
        makes("three and three", 63, 7, 56);
        makes("two, two, one and one", 63, 3, 12, 16, 32);
        makes("two, one, one, one and one", 63, 3, 4, 8, 16, 32);
        makes("three, one, one and one", 63, 7, 8, 16, 32);
    }

    private static boolean canTake(int one, int two, int three) {
        boolean can = false;
        for (int a = 0; a < 3; a++) {
            for (int b = 0; b < 3; b++) {
                int c = 3 - a - b;
                can |= a != b && c != a && c != b && (one >> a & two >> b & three >> c & 1) != 0;
            }
        }
        return can;
    }

    private static LobbyMaker withRoles(int... roles) {
        LobbyMaker x = new LobbyMaker();
        for (int r : roles) {
            x.addPlayer(1000, r);
        }
        return x;
    }

    private static void possibleTeams() {
        for (int i = 0; i < 343; i++) {
            int one = 1 + i / 49;
            int two = 1 + i / 7 % 7;
            int three = 1 + i % 7;
            int want = canTake(one, two, three) ? 0 : LobbyMaker.NONE;
            LobbyMaker x = withRoles(one, two, three, 7, 7, 7);
            queueAll(x, 7, 56);
            due("make() with the roles " + one + ", " + two + ", " + three + " in the team 0", x.make(), want);
            LobbyMaker y = withRoles(7, 7, 7, one, two, three);
            queueAll(y, 7, 56);
            due("make() with the roles " + one + ", " + two + ", " + three + " in the team 1", y.make(), want);
            LobbyMaker z = withRoles(one, two, three, one, two, three);
            queueAll(z, 1, 2, 4, 8, 16, 32);
            due("make() of singles with the roles " + one + ", " + two + ", " + three + " twice", z.make(), want);
        }
    }

    private static void partiesTogether() {
        LobbyMaker x = lobby(new int[] {1100, 1100, 1000, 1000, 1000, 1000}, 7);
        queueAll(x, 3, 4, 8, 16, 32);
        due("make()", x.make(), 0);
        due("team(0, 0)", x.team(0, 0), 7);
        due("unevenness(0), which is 0 if the party is parted", x.unevenness(0), 200);
        LobbyMaker y = withRoles(1, 1, 6, 6, 6, 6);
        queueAll(y, 3, 4, 8, 16, 32);
        due("make() with two of one role in a party", y.make(), LobbyMaker.NONE);
        y.leave(0);
        queueAll(y, 1, 2);
        due("make() with the two apart", y.make(), 0);
    }

    private static void fitting() {
        LobbyMaker x = lobby(new int[] {1000, 1200, 1201, 1100, 1101, 900, 899}, 7);
        queueAll(x, 1, 2, 4);
        x.pass(5);
        queueAll(x, 8, 16, 32, 64);
        int[] others = {0, 1, 3, 5};
        for (int other : others) {
            due("fit(0, " + other + ") at the window", x.fit(0, other), true);
            due("fit(" + other + ", 0) at the window", x.fit(other, 0), true);
        }
        for (int other : new int[] {2, 4, 6}) {
            due("fit(0, " + other + ") beyond the window", x.fit(0, other), false);
            due("fit(" + other + ", 0) beyond the window", x.fit(other, 0), false);
        }
        LobbyMaker y = lobby(new int[] {0, 4000}, 7);
        queueAll(y, 1, 2);
        y.pass(194);
        due("fit of 0 and 4000 with windows of 3980", y.fit(0, 1), false);
        y.pass(1);
        due("fit of 0 and 4000 with windows of 4000", y.fit(0, 1), true);
    }

    private static void possibleSets() {
        LobbyMaker x = lobby(new int[] {1000, 900, 900, 1100, 1100, 1100}, 7);
        queueAll(x, 1, 2, 4, 8, 16, 32);
        due("make(), all 100 from the first one", x.make(), 0);
        LobbyMaker y = lobby(new int[] {1000, 900, 900, 1100, 1100, 1101}, 7);
        queueAll(y, 1, 2, 4, 8, 16, 32);
        due("make(), one 101 from the first one", y.make(), LobbyMaker.NONE);
        y.pass(1);
        due("make() a minute later", y.make(), 0);
        LobbyMaker w = lobby(new int[] {900, 1000, 1100, 1100, 1100, 1100}, 7);
        queueAll(w, 1, 2, 4, 8, 16, 32);
        due("make(), all 100 from the second one, but not from the first one", w.make(), LobbyMaker.NONE);
        LobbyMaker z = alike(7);
        queueAll(z, 1, 2, 4, 8, 16, 32);
        z.leave(5);
        due("make() without one who has left", z.make(), LobbyMaker.NONE);
        z.queue(64);
        due("make()", z.make(), 0);
        due("make() of those in a match", z.make(), LobbyMaker.NONE);
        LobbyMaker off = off();
        due("make() without the one who declined", off.make(), LobbyMaker.NONE);
        LobbyMaker finished = finished();
        due("make() of those who have played", finished.make(), LobbyMaker.NONE);
    }

    private static int setOf(LobbyMaker x, int... parties) {
        queueAll(x, parties);
        due("make()", x.make(), 0);
        return x.team(0, 0) + x.team(0, 1);
    }

    private static void takenSets() {
        due("the first party that is in any set, not the very first",
                setOf(lobby(new int[] {1101, 1000, 1000, 1000, 1000, 1000, 1000, 1000}, 7), 1, 2, 4, 8, 16, 32, 64, 128), 126);
        due("of the sets 0 1 3 4 and 0 2 the one with 1",
                setOf(alike(9), 7, 8, 16 + 32 + 64, 128, 256), 7 + 8 + 128 + 256);
        due("of the sets 0 2 and 0 1 4 the one with 1, though 1 comes with the last one",
                setOf(alike(9), 7, 8, 16 + 32 + 64, 128 + 256), 7 + 8 + 128 + 256);
        due("the set 0 2, as 1 finds no other",
                setOf(alike(9), 7, 8, 16 + 32 + 64), 7 + 16 + 32 + 64);
        due("the earliest parties, though later ones are more even",
                setOf(lobby(new int[] {1000, 1000, 1000, 1000, 1000, 1090, 1000}, 7), 1, 2, 4, 8, 16, 32, 64), 63);
        LobbyMaker x = alike(7);
        due("the numbers of the parties, not of the players", setOf(x, 64, 32, 16, 8, 4, 2, 1), 126);
        due("a party that no team can have is passed over",
                setOf(withRoles(7, 7, 1, 1, 7, 7, 7, 7), 1, 2, 4 + 8, 16, 32, 64, 128), 3 + 16 + 32 + 64 + 128);
    }

    private static void splitDue(String what, int team, int unevenness, int... ratings) {
        LobbyMaker x = lobby(ratings, 7);
        queueAll(x, 1, 2, 4, 8, 16, 32);
        due(what + ": make()", x.make(), 0);
        due(what + ": team(0, 0)", x.team(0, 0), team);
        due(what + ": team(0, 1)", x.team(0, 1), 63 - team);
        due(what + ": unevenness(0)", x.unevenness(0), unevenness);
    }

    private static void splits() {
        splitDue("all as even", 1 + 2 + 4, 0, 1000, 1000, 1000, 1000, 1000, 1000);
        // Of 6150 each team has 3075 at best: 1000 with 1025 and 1050.
        splitDue("the last ones", 1 + 16 + 32, 0, 1000, 1010, 1020, 1045, 1025, 1050);
        splitDue("team 0 higher by 1", 1 + 2 + 4, 1, 1001, 1000, 1000, 1000, 1000, 1000);
        splitDue("team 0 lower by 1", 1 + 2 + 4, 1, 1000, 1000, 1000, 1001, 1000, 1000);
        // 1 with 3 or with 4 is as even: the one with 3 comes first.
        splitDue("the lowest number that is not in both", 1 + 2 + 8, 0, 1000, 1030, 1050, 1010, 1010, 980);
        // 0 1 5 has 3010 and 3010, and so has 0 2 3: the one with 1 comes first, though 5 is in it.
        splitDue("the lowest number alone", 1 + 2 + 32, 0, 1000, 1020, 1005, 1005, 1000, 990);
        LobbyMaker x = lobby(new int[] {1000, 1000, 1000, 1001, 1001, 1001}, 7);
        queueAll(x, 56, 7);
        x.make();
        due("team(0, 0) has the first party of the queue", x.team(0, 0), 56);
        due("unevenness(0)", x.unevenness(0), 3);
        LobbyMaker y = withRoles(1, 1, 6, 6, 6, 6);
        queueAll(y, 1, 2, 4, 8, 16, 32);
        y.make();
        due("team(0, 0), as 0 and 1 can't be in one team", y.team(0, 0), 1 + 4 + 8);
    }

    private static void threeMinutesToAccept() {
        LobbyMaker x = made();
        due("pass(2)", x.pass(2), 0);
        due("matchState(0) after two minutes", x.matchState(0), LobbyMaker.MADE);
        acceptAll(x, 0, 31);
        due("accept(0, 5) after two minutes", x.accept(0, 5), true);
        LobbyMaker y = made();
        y.pass(2);
        acceptAll(y, 0, 31);
        due("pass(1)", y.pass(1), 1);
        refused("accept(0, 5) after three minutes", STATE, () -> y.accept(0, 5));
        refused("decline(0, 5) after three minutes", STATE, () -> y.decline(0, 5));
        LobbyMaker z = made();
        z.pass(2);
        due("decline(0, 5) after two minutes", z.decline(0, 5), 5);
    }

    private static void allAccept() {
        LobbyMaker x = made();
        for (int p = 5; p > 0; p--) {
            due("accept(0, " + p + ")", x.accept(0, p), false);
            due("matchState(0)", x.matchState(0), LobbyMaker.MADE);
        }
        refused("finish(0, 0), one has not accepted", STATE, () -> finish(x, 0, 0));
        due("accept(0, 0)", x.accept(0, 0), true);
        due("matchState(0)", x.matchState(0), LobbyMaker.ON);
        due("pass(3)", x.pass(3), 0);
        due("pass(1000)", x.pass(1000), 0);
        due("matchState(0)", x.matchState(0), LobbyMaker.ON);
        due("state(0)", x.state(0), LobbyMaker.IN_MATCH);
    }

    private static void declines() {
        LobbyMaker x = alike(6);
        queueAll(x, 3, 4);
        x.pass(2);
        queueAll(x, 8, 48);
        x.make();
        x.pass(1);
        acceptAll(x, 0, 63 - 2 - 16);
        due("decline(0, 1)", x.decline(0, 1), 5);
        int[] states = {0, 0, 1, 1, 1, 1};
        int[] levels = {0, 1, 0, 0, 0, 0};
        for (int p = 0; p < 6; p++) {
            due("state(" + p + ")", x.state(p), states[p]);
            due("level(" + p + ")", x.level(p), levels[p]);
            due("barred(" + p + ")", x.barred(p), 5 * levels[p]);
        }
        due("matchState(0)", x.matchState(0), LobbyMaker.OFF);
        due("queued()", x.queued(), 3);
        due("window(1), with the time that it had", x.window(1), 160);
        due("window(2), with the time that it had", x.window(2), 120);
        refused("window(0), of the one who declined", STATE, () -> x.window(0));
        LobbyMaker y = alike(6);
        y.queue(56);
        int[] bars = {5, 10, 20, 40, 80, 80, 80};
        for (int i = 0; i < bars.length; i++) {
            y.queue(7);
            y.make();
            due("decline " + i, y.decline(i, 2), bars[i]);
            due("level(2)", y.level(2), Math.min(5, i + 1));
            due("barred(2)", y.barred(2), bars[i]);
            y.pass(bars[i]);
            due("barred(2)", y.barred(2), 0);
        }
    }

    private static void unanswered() {
        LobbyMaker x = alike(6);
        queueAll(x, 3, 4, 8, 16, 32);
        x.make();
        x.accept(0, 0);
        x.accept(0, 2);
        x.pass(2);
        x.accept(0, 5);
        due("pass(1)", x.pass(1), 1);
        int[] states = {0, 0, 1, 0, 0, 1};
        int[] levels = {0, 1, 0, 1, 1, 0};
        for (int p = 0; p < 6; p++) {
            due("state(" + p + ")", x.state(p), states[p]);
            due("level(" + p + ")", x.level(p), levels[p]);
            due("barred(" + p + ")", x.barred(p), 5 * levels[p]);
        }
        due("window(1), as if it had queued all the while", x.window(1), 160);
        LobbyMaker y = made();
        due("pass(3), nobody has accepted", y.pass(3), 1);
        for (int p = 0; p < 6; p++) {
            due("level(" + p + "), of one of a party of whom all count", y.level(p), 1);
            due("barred(" + p + ")", y.barred(p), 5);
        }
        due("queued()", y.queued(), 0);
        LobbyMaker z = alike(6);
        z.queue(56);
        int[] bars = {5, 10, 20, 40, 80, 80};
        for (int i = 0; i < bars.length; i++) {
            z.queue(7);
            z.make();
            acceptAll(z, i, 62);
            due("pass(3)", z.pass(3), 1);
            due("barred(0)", z.barred(0), bars[i]);
            due("level(0)", z.level(0), Math.min(5, i + 1));
            z.pass(80);
        }
        twoMatchesOff();
    }

    /** The first match is off after three minutes of a longer pass, the second one after four, the third not yet. */
    private static void twoMatchesOff() {
        LobbyMaker x = alike(18);
        queueAll(x, 7, 7 << 3, 7 << 6, 7 << 9, 7 << 12, 7 << 15);
        x.make();
        x.pass(1);
        x.make();
        x.pass(1);
        x.make();
        due("pass(2)", x.pass(2), 2);
        due("matchState(0)", x.matchState(0), LobbyMaker.OFF);
        due("matchState(1)", x.matchState(1), LobbyMaker.OFF);
        due("matchState(2)", x.matchState(2), LobbyMaker.MADE);
        due("barred(0), from the minute 3 to 8", x.barred(0), 4);
        due("barred(6), from the minute 4 to 9", x.barred(6), 5);
        due("barred(12)", x.barred(12), 0);
    }

    // ---- Results

    private static LobbyMaker finishedAgain(int winner, int... ratings) {
        LobbyMaker x = playing(ratings);
        x.finish(0, winner);
        queueAll(x, 7, 56);
        x.pass(1000);
        playAgain(x, 1);
        x.finish(1, winner);
        return x;
    }

    private static LobbyMaker finishedOnce(int winner, int... ratings) {
        LobbyMaker x = playing(ratings);
        x.finish(0, winner);
        return x;
    }

    private static void expectedShares() {
        // Means of 1020 and 2 / 3 and of 1000 and 1 / 3 are 1020 and 1000: a gain of 480 for a loss of 480, 21 each.
        ratingsDue(finishedOnce(0, 1020, 1020, 1022, 1000, 1000, 1001), 1041, 1041, 1043, 979, 979, 980);
        // 19 apart is a gain of 481, and a loss of 21.04 is one of 22.
        ratingsDue(finishedOnce(0, 1019, 1020, 1020, 1000, 1000, 1000), 1040, 1041, 1041, 978, 978, 978);
        // After a match of 2 for -3 they are 449 apart: a share of 949, and 315 * 51 / 8000 is 2, its loss 3.
        ratingsDue(finishedAgain(0, 1444, 1444, 1444, 1000, 1000, 1000), 1448, 1448, 1448, 994, 994, 994);
        // 450 apart is a share of 950, and 315 * 50 / 8000 is 1, its loss 2.
        ratingsDue(finishedAgain(0, 1445, 1445, 1445, 1000, 1000, 1000), 1448, 1448, 1448, 995, 995, 995);
        // 451 apart is no more than 950.
        ratingsDue(finishedAgain(0, 1446, 1446, 1446, 1000, 1000, 1000), 1449, 1449, 1449, 995, 995, 995);
        // The same with the team 1 ahead, whose share is 1000 less 51, less 50 and no more.
        ratingsDue(finishedAgain(1, 1000, 1000, 1000, 1444, 1444, 1444), 994, 994, 994, 1448, 1448, 1448);
        ratingsDue(finishedAgain(1, 1000, 1000, 1000, 1445, 1445, 1445), 995, 995, 995, 1448, 1448, 1448);
        ratingsDue(finishedAgain(1, 1000, 1000, 1000, 1446, 1446, 1446), 995, 995, 995, 1449, 1449, 1449);
        // As far apart as can be, with each of them as the one that wins: 350 * 950 / 8000 is 41.5625.
        ratingsDue(finishedOnce(0, 3900, 3900, 3900, 100, 100, 100), 3902, 3902, 3902, 97, 97, 97);
        ratingsDue(finishedOnce(1, 3900, 3900, 3900, 100, 100, 100), 3858, 3858, 3858, 141, 141, 141);
        ratingsDue(finishedOnce(0, 100, 100, 100, 3900, 3900, 3900), 141, 141, 141, 3858, 3858, 3858);
        ratingsDue(finishedOnce(1, 100, 100, 100, 3900, 3900, 3900), 97, 97, 97, 3902, 3902, 3902);
    }

    private static void ratingsWithin() {
        ratingsDue(finishedOnce(0, 3978, 3979, 3980, 3978, 3979, 3980), 3999, 4000, 4000, 3956, 3957, 3958);
        ratingsDue(finishedOnce(1, 3978, 3979, 3980, 3978, 3979, 3980), 3956, 3957, 3958, 3999, 4000, 4000);
        ratingsDue(finishedOnce(0, 21, 22, 23, 21, 22, 23), 42, 43, 44, 0, 0, 1);
        ratingsDue(finishedOnce(1, 21, 22, 23, 21, 22, 23), 0, 0, 1, 42, 43, 44);
        ratingsDue(finishedOnce(0, 4000, 4000, 4000, 4000, 4000, 4000), 4000, 4000, 4000, 3978, 3978, 3978);
        ratingsDue(finishedOnce(1, 0, 0, 0, 0, 0, 0), 0, 0, 0, 21, 21, 21);
    }

    private static void afterTheMatch() {
        LobbyMaker x = alike(7);
        int[] uncertainty = {350, 315, 283, 254, 228, 205, 184, 165, 148, 133, 119, 107, 96, 86, 77, 69, 62, 55, 50, 50, 50};
        for (int i = 0; i < uncertainty.length; i++) {
            due("uncertainty(0) after " + i, x.uncertainty(0), uncertainty[i]);
            due("uncertainty(5) after " + i, x.uncertainty(5), uncertainty[i]);
            due("level(0), at least 0", x.level(0), 0);
            queueAll(x, 7, 56);
            x.pass(20);
            playAgain(x, i);
            x.finish(i, i % 2);
            due("state(0)", x.state(0), LobbyMaker.IDLE);
            due("state(5)", x.state(5), LobbyMaker.IDLE);
        }
        due("uncertainty(6), who has not played", x.uncertainty(6), 350);
        LobbyMaker y = alike(6);
        y.queue(56);
        for (int i = 0; i < 2; i++) {
            y.queue(7);
            y.make();
            y.decline(i, 0);
            y.pass(10);
        }
        for (int i = 2; i >= 0; i--) {
            due("level(0)", y.level(0), i);
            if (i < 2) {
                y.queue(56);
            }
            y.queue(7);
            y.pass(20);
            playAgain(y, 4 - i);
            y.finish(4 - i, 1);
        }
        due("level(0), at least 0", y.level(0), 0);
    }

    // ---- the constants and the order of the calls

    private static void playerStates() {
        due("IDLE", LobbyMaker.IDLE, 0);
        due("QUEUING", LobbyMaker.QUEUING, 1);
        due("IN_MATCH", LobbyMaker.IN_MATCH, 2);
    }

    private static void matchStates() {
        due("MADE", LobbyMaker.MADE, 0);
        due("ON", LobbyMaker.ON, 1);
        due("OFF", LobbyMaker.OFF, 2);
        due("FINISHED", LobbyMaker.FINISHED, 3);
    }

    /** The calls stand in the source in the order of these names, all after the line and before the next such line. */
    private static void standsAhead(String line, String... calls) {
        try {
            String source = Files.readString(Path.of("src", "main", "java", "LobbyMaker.java"));
            int at = source.indexOf("    // ---- " + line + "\n");
            int next = source.indexOf("    // ---- ", at + 1);
            due("the line '---- " + line + "' is there", at >= 0 && next > at, true);
            for (String call : calls) {
                int then = source.indexOf(" " + call + "(", Math.max(0, at));
                due(call + " stands after '---- " + line + "' and what is before it", then > at && then < next, true);
                at = then;
            }
        } catch (IOException e) {
            throw new UncheckedIOException(e);
        }
    }

    public static void main(String[] args) {
        under("Terms");
        sentence("Players are added and queue as parties, time passes, matches are made, accepted, declined and finished;"
                + " the queue, matches and ratings can be asked for.", TermEdgesTest::aRunOfAll);
        sentence("Time is counted in minutes from 0.", TermEdgesTest::timeFromZero);
        sentence("A method throws IndexOutOfBoundsException if there is no such player, party or match,"
                + " IllegalArgumentException if another argument is out of range, and IllegalStateException as it documents;"
                + " if several apply, the one that it lists first is thrown.", TermEdgesTest::firstListedException);
        sentence("A call that throws changes nothing.", TermEdgesTest::refusedCallsChangeNothing);
        sentence("Divisions are rounded down, also below 0.", TermEdgesTest::roundedDown);
        under("Players and parties");
        sentence("Players are numbered from 0; there are at most 18.", TermEdgesTest::eighteenPlayers);
        sentence("A player has a rating, an uncertainty, 350 at first, a set of the roles 0 to 2, and a penalty level, 0 at"
                + " first.", TermEdgesTest::firstValues);
        sentence("A player is idle, queues, or is in a match, and can be barred until a time.", TermEdgesTest::statesAndBars);
        sentence("Parties are numbered from 0 in the order in which they queue; at most 100 ever do.",
                TermEdgesTest::hundredParties);
        sentence("A party has 1 to 3 players and the time since which it queues; its rating is the sum of the ratings of its"
                + " players as they are, divided by their number.", TermEdgesTest::partyRatings);
        sentence("Its window is 100 plus 20 for each minute that it has queued.", TermEdgesTest::windows);
        sentence("The order of the queue is that of the numbers of the parties.", TermEdgesTest::orderOfTheQueue);
        under("Matches");
        sentence("A match has 6 players, in two teams of 3, 0 and 1.", TermEdgesTest::sixPlayers);
        sentence("A team is possible, if its players can take the three roles, one each, each one of the own set.",
                TermEdgesTest::possibleTeams);
        sentence("Parties stay together in a team.", TermEdgesTest::partiesTogether);
        sentence("Two parties fit, if the difference of their ratings is at most the window of each of them.",
                TermEdgesTest::fitting);
        sentence("A set of queuing parties is possible for a match, if they have 6 players together, each of them fits the"
                + " first one of them in the queue, and they can be split into two possible teams.",
                TermEdgesTest::possibleSets);
        sentence("To make a match, the possible set is taken that has the first party of the queue that is in any possible"
                + " set as its first one, and, of these, comes first: of two sets the one that has the party with the lowest"
                + " number that is not in both.", TermEdgesTest::takenSets);
        sentence("The set is split so that the difference of the sums of the ratings of both teams, without its sign, is"
                + " least; the first party is in the team 0; of several splits the one whose team 0 has, of the parties that"
                + " are not in the team 0 of both, that with the lowest number.", TermEdgesTest::splits);
        sentence("A match that is made waits for each of its players to accept, for 3 minutes.",
                TermEdgesTest::threeMinutesToAccept);
        sentence("When all have accepted, it goes on.", TermEdgesTest::allAccept);
        sentence("If a player declines, it is off: the party of that player queues no more, all other parties queue again,"
                + " with the numbers and times that they had, as if they had queued all the while; the penalty level of that"
                + " player grows by 1, but to 5 at most, and the player is barred for 5 minutes at level 1, and twice as long"
                + " at each further level.", TermEdgesTest::declines);
        sentence("When 3 minutes have passed since it was made, it is off as well: all players who have not accepted count as"
                + " if they had declined, one after the other by rising numbers.", TermEdgesTest::unanswered);
        under("Results");
        sentence("When a match is finished, the expected share of team 0 is 500 plus its mean rating less that of team 1, but"
                + " at least 50 and at most 950; that of team 1 is 1000 less that; a mean rating is the sum of the ratings,"
                + " divided by 3.", TermEdgesTest::expectedShares);
        sentence("The rating of each player grows by uncertainty * (share - expected share) / 8000, where the share is 1000"
                + " for the team that has won and 0 for the other one; it stays within 0 and 4000.",
                TermEdgesTest::ratingsWithin);
        sentence("Then the uncertainty of each becomes 9 / 10 of it, but at least 50, the penalty level of each 1 less, but"
                + " at least 0, and all are idle.", TermEdgesTest::afterTheMatch);
        sentence("The constants: `NONE = -1`: There is none.", () -> due("NONE", LobbyMaker.NONE, -1));
        sentence("`IDLE = 0, QUEUING = 1, IN_MATCH = 2`: States of players.", TermEdgesTest::playerStates);
        sentence("`MADE = 0, ON = 1, OFF = 2, FINISHED = 3`: States of matches.", TermEdgesTest::matchStates);
        sentence("Ahead of the calls `addPlayer`, `queue`, `leave`, `players`, `state`, `rating`, `uncertainty`, `level`,"
                + " `barred`, `queued`, `window`, `fit` the interface says: ---- players and parties.",
                () -> standsAhead("players and parties", "public int addPlayer", "public int queue", "public int leave",
                        "public int players", "public int state", "public int rating", "public int uncertainty",
                        "public int level", "public int barred", "public int queued", "public int window",
                        "public boolean fit"));
        sentence("Ahead of the calls `make`, `accept`, `decline`, `finish`, `matches`, `matchState`, `team`, `unevenness`,"
                + " `pass`, `clock` the interface says: ---- matches.",
                () -> standsAhead("matches", "public int make", "public boolean accept", "public int decline",
                        "public void finish", "public int matches", "public int matchState", "public int team",
                        "public int unevenness", "public int pass", "public int clock"));
        allSentencesTested();
        end("all sentences of the terms hold", "answers are not as due");
    }
}
