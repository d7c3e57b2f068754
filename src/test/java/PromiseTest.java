/** Each promise of the document by itself: ordinary inputs, the edges that it names, and wrong inputs. */
public final class PromiseTest extends LobbyTest {
    /** Six players of these ratings in a match that goes on, each one a party. */
    private static LobbyMaker playing(int... ratings) {
        LobbyMaker x = lobby(ratings, 7);
        queueAll(x, 1, 2, 4, 8, 16, 32);
        x.pass(1000);
        due("make()", x.make(), 0);
        acceptAll(x, 0, 63);
        return x;
    }

    private static void newObject() {
        LobbyMaker x = new LobbyMaker();
        due("players()", x.players(), 0);
        due("queued()", x.queued(), 0);
        due("matches()", x.matches(), 0);
        due("clock()", x.clock(), 0);
        due("make()", x.make(), LobbyMaker.NONE);
        refused("state(0)", INDEX, () -> x.state(0));
        refused("window(0)", INDEX, () -> x.window(0));
        refused("matchState(0)", INDEX, () -> x.matchState(0));
        LobbyMaker other = alike(3);
        other.pass(7);
        due("players() of the first", x.players(), 0);
        due("clock() of the first", x.clock(), 0);
    }

    private static void addPlayer() {
        LobbyMaker x = new LobbyMaker();
        int[][] bad = {{-1, 7}, {4001, 7}, {1000, 0}, {1000, 8}, {1000, -1}, {LEAST, 7}, {MOST, 7}, {0, LEAST}, {0, MOST}};
        for (int[] b : bad) {
            refused("addPlayer(" + b[0] + ", " + b[1] + ")", RANGE, () -> x.addPlayer(b[0], b[1]));
        }
        due("players()", x.players(), 0);
        due("addPlayer(0, 1)", x.addPlayer(0, 1), 0);
        due("addPlayer(4000, 7)", x.addPlayer(4000, 7), 1);
        due("rating(0)", x.rating(0), 0);
        due("rating(1)", x.rating(1), 4000);
        for (int i = 2; i < 18; i++) {
            due("addPlayer", x.addPlayer(1000, 1 + i % 7), i);
        }
        refused("addPlayer, the 19th", STATE, () -> x.addPlayer(1000, 7));
        refused("addPlayer(4001, 7), the 19th", RANGE, () -> x.addPlayer(4001, 7));
        due("players()", x.players(), 18);
    }

    private static void queue() {
        LobbyMaker x = alike(5);
        for (int players : new int[] {0, 15, 31, 32, 33, -1, LEAST, MOST, 1 << 18, 1 << 30}) {
            refused("queue(" + players + ")", RANGE, () -> x.queue(players));
        }
        due("queue(1)", x.queue(1), 0);
        refused("queue(1) again", STATE, () -> x.queue(1));
        refused("queue(3) with one who queues", STATE, () -> x.queue(3));
        refused("queue(33) with one who queues and one who is not", RANGE, () -> x.queue(33));
        due("state(1)", x.state(1), LobbyMaker.IDLE);
        due("queue(22)", x.queue(22), 1);
        due("state(1)", x.state(1), LobbyMaker.QUEUING);
        due("state(2)", x.state(2), LobbyMaker.QUEUING);
        due("state(4)", x.state(4), LobbyMaker.QUEUING);
        due("state(3)", x.state(3), LobbyMaker.IDLE);
        queueOneInMatch();
        queueOneBarred();
        queueHundred();
    }

    private static void queueOneInMatch() {
        LobbyMaker x = alike(7);
        queueAll(x, 7, 56);
        x.make();
        refused("queue(1) in a match made", STATE, () -> x.queue(1));
        refused("queue(96) with one in a match", STATE, () -> x.queue(96));
        acceptAll(x, 0, 63);
        refused("queue(1) in a match on", STATE, () -> x.queue(1));
        x.finish(0, 0);
        due("queue(33) after the match", x.queue(33), 2);
    }

    private static void queueOneBarred() {
        LobbyMaker x = alike(7);
        queueAll(x, 7, 56);
        x.make();
        x.decline(0, 1);
        refused("queue(2), barred", STATE, () -> x.queue(2));
        refused("queue(66) with one barred", STATE, () -> x.queue(66));
        due("queue(1) of the barred one's party", x.queue(1), 2);
        x.pass(4);
        refused("queue(2), barred for one minute more", STATE, () -> x.queue(2));
        x.pass(1);
        due("queue(66), barred no more", x.queue(66), 3);
    }

    private static void queueHundred() {
        LobbyMaker x = alike(2);
        for (int i = 0; i < 100; i++) {
            due("queue(1)", x.queue(1), i);
            due("leave", x.leave(i), 0);
        }
        refused("queue(1), the 101st", STATE, () -> x.queue(1));
        refused("queue(4), the 101st", RANGE, () -> x.queue(4));
        due("state(0)", x.state(0), LobbyMaker.IDLE);
        refused("leave(100)", INDEX, () -> x.leave(100));
    }

    private static void leave() {
        LobbyMaker x = alike(8);
        queueAll(x, 3, 4);
        x.pass(7);
        x.queue(8);
        for (int party : new int[] {-1, 3, LEAST, MOST}) {
            refused("leave(" + party + ")", INDEX, () -> x.leave(party));
        }
        x.pass(2);
        due("leave(0)", x.leave(0), 9);
        due("leave(2)", x.leave(2), 2);
        due("state(0)", x.state(0), LobbyMaker.IDLE);
        due("state(1)", x.state(1), LobbyMaker.IDLE);
        due("state(2)", x.state(2), LobbyMaker.QUEUING);
        due("queued()", x.queued(), 1);
        refused("leave(0) again", STATE, () -> x.leave(0));
        due("queue(1)", x.queue(1), 3);
        refused("leave(0), whose player queues in another party", STATE, () -> x.leave(0));
        due("leave(3)", x.leave(3), 0);
        queueAll(x, 56, 67);
        refused("leave(3)", STATE, () -> x.leave(3));
        due("leave(1)", x.leave(1), 9);
        due("make()", x.make(), 0);
        refused("leave(4) in a match", STATE, () -> x.leave(4));
        acceptAll(x, 0, 123);
        refused("leave(4) in a match on", STATE, () -> x.leave(4));
        x.finish(0, 0);
        refused("leave(4) after it", STATE, () -> x.leave(4));
    }

    private static void players() {
        LobbyMaker x = new LobbyMaker();
        for (int i = 0; i < 18; i++) {
            due("players()", x.players(), i);
            x.addPlayer(i, 1);
        }
        due("players()", x.players(), 18);
    }

    private static void state() {
        LobbyMaker x = alike(7);
        noSuchPlayer("state", x::state);
        due("state(6)", x.state(6), LobbyMaker.IDLE);
        queueAll(x, 3, 4, 56);
        due("state(0)", x.state(0), LobbyMaker.QUEUING);
        x.make();
        due("state(0)", x.state(0), LobbyMaker.IN_MATCH);
        due("state(6)", x.state(6), LobbyMaker.IDLE);
        acceptAll(x, 0, 63);
        due("state(0) in a match on", x.state(0), LobbyMaker.IN_MATCH);
        x.finish(0, 1);
        due("state(0)", x.state(0), LobbyMaker.IDLE);
        due("state(5)", x.state(5), LobbyMaker.IDLE);
    }

    private interface Asked {
        int answer(int number);
    }

    /** Of seven players. */
    private static void noSuchPlayer(String call, Asked asked) {
        for (int player : new int[] {-1, 7, 17, 18, 32, LEAST, MOST}) {
            refused(call + "(" + player + ")", INDEX, () -> asked.answer(player));
        }
    }

    private static void rating() {
        LobbyMaker x = lobby(new int[] {1, 22, 333, 4000, 0, 5, 6}, 7);
        noSuchPlayer("rating", x::rating);
        due("rating(0)", x.rating(0), 1);
        due("rating(2)", x.rating(2), 333);
        due("rating(3)", x.rating(3), 4000);
        due("rating(6)", x.rating(6), 6);
    }

    private static void uncertainty() {
        LobbyMaker x = alike(7);
        noSuchPlayer("uncertainty", x::uncertainty);
        int[] due = {350, 315, 283, 254, 228, 205, 184, 165, 148, 133, 119, 107, 96, 86, 77, 69, 62, 55, 50, 50};
        for (int i = 0; i < due.length; i++) {
            due("uncertainty(5) after " + i, x.uncertainty(5), due[i]);
            queueAll(x, 7, 56);
            x.pass(1000);
            x.make();
            acceptAll(x, i, 63);
            x.finish(i, i % 2);
        }
        due("uncertainty(6)", x.uncertainty(6), 350);
    }

    private static void level() {
        LobbyMaker x = alike(7);
        noSuchPlayer("level", x::level);
        x.queue(56);
        for (int i = 0; i < 7; i++) {
            due("level(0)", x.level(0), Math.min(5, i));
            x.queue(7);
            due("make()", x.make(), i);
            x.decline(i, 0);
            x.pass(80);
        }
        due("level(1)", x.level(1), 0);
        due("level(3)", x.level(3), 0);
        for (int i = 0; i < 7; i++) {
            due("level(0)", x.level(0), Math.max(0, 5 - i));
            if (x.state(3) == LobbyMaker.IDLE) {
                x.queue(56);
            }
            x.queue(7);
            due("make()", x.make(), 7 + i);
            acceptAll(x, 7 + i, 63);
            x.finish(7 + i, i % 2);
            x.pass(1000);
        }
        due("level(3)", x.level(3), 0);
    }

    private static void barred() {
        LobbyMaker x = alike(7);
        noSuchPlayer("barred", x::barred);
        due("barred(0)", x.barred(0), 0);
        queueAll(x, 7, 56);
        x.make();
        x.pass(1);
        x.decline(0, 0);
        for (int i = 5; i >= 0; i--) {
            due("barred(0)", x.barred(0), i);
            due("barred(1)", x.barred(1), 0);
            x.pass(1);
        }
        due("barred(0)", x.barred(0), 0);
        x.pass(1000);
        due("barred(0)", x.barred(0), 0);
    }

    private static void queued() {
        LobbyMaker x = alike(12);
        queueAll(x, 7, 8, 48, 64);
        due("queued()", x.queued(), 4);
        x.make();
        due("queued() with a match made", x.queued(), 1);
        x.queue(128 + 256);
        due("queued()", x.queued(), 2);
        x.decline(0, 4);
        due("queued() after the match is off", x.queued(), 4);
        x.leave(0);
        due("queued()", x.queued(), 3);
    }

    private static void window() {
        LobbyMaker x = alike(7);
        queueAll(x, 7, 56);
        refused("window(2)", INDEX, () -> x.window(2));
        refused("window(-1)", INDEX, () -> x.window(-1));
        refused("window(least)", INDEX, () -> x.window(LEAST));
        refused("window(most)", INDEX, () -> x.window(MOST));
        due("window(0)", x.window(0), 100);
        x.pass(1);
        due("window(0)", x.window(0), 120);
        x.pass(9);
        x.queue(64);
        due("window(0)", x.window(0), 300);
        due("window(2)", x.window(2), 100);
        x.make();
        refused("window(0) in a match", STATE, () -> x.window(0));
        x.pass(2);
        x.decline(0, 5);
        due("window(0) as if it had queued all the while", x.window(0), 340);
        refused("window(1)", STATE, () -> x.window(1));
        x.leave(0);
        refused("window(0)", STATE, () -> x.window(0));
        for (int i = 0; i < 99; i++) {
            x.pass(1000);
        }
        due("window(2)", x.window(2), 100 + 20 * (x.clock() - 10));
    }

    private static void fit() {
        LobbyMaker x = lobby(new int[] {1000, 1100, 1101, 1000, 901, 1101, 1102, 1100}, 7);
        queueAll(x, 1, 2, 4, 8 + 16, 32 + 64 + 128);
        for (int none : new int[] {-1, 5, LEAST, MOST}) {
            refused("fit(0, " + none + ")", INDEX, () -> x.fit(0, none) ? 1 : 0);
            refused("fit(" + none + ", 0)", INDEX, () -> x.fit(none, 0) ? 1 : 0);
        }
        due("fit(0, 0)", x.fit(0, 0), true);
        due("fit(0, 1), 100 apart", x.fit(0, 1), true);
        due("fit(1, 0)", x.fit(1, 0), true);
        due("fit(0, 2), 101 apart", x.fit(0, 2), false);
        due("fit(2, 0)", x.fit(2, 0), false);
        // (1000 + 901) / 2 is 950, (1101 + 1102 + 1100) / 3 is 1101.
        due("fit(3, 0), 50 apart", x.fit(3, 0), true);
        due("fit(3, 1), 150 apart", x.fit(3, 1), false);
        due("fit(4, 2), 0 apart", x.fit(4, 2), true);
        due("fit(4, 0), 101 apart", x.fit(4, 0), false);
        x.leave(2);
        refused("fit(2, 0)", STATE, () -> x.fit(2, 0) ? 1 : 0);
        refused("fit(0, 2)", STATE, () -> x.fit(0, 2) ? 1 : 0);
        refused("fit(2, 5)", INDEX, () -> x.fit(2, 5) ? 1 : 0);
        refused("fit(5, 2)", INDEX, () -> x.fit(5, 2) ? 1 : 0);
        x.pass(1);
        x.queue(4);
        due("fit(0, 4), both 120 wide", x.fit(0, 4), true);
        due("fit(0, 5), only one 120 wide", x.fit(0, 5), false);
        due("fit(5, 0), only one 120 wide", x.fit(5, 0), false);
        LobbyMaker y = lobby(new int[] {1000, 850, 851, 1000}, 7);
        queueAll(y, 1, 2 + 4, 8);
        // 1701 / 2 is 850.
        due("fit(0, 1)", y.fit(0, 1), false);
        y.pass(2);
        due("fit(0, 1), 140 wide", y.fit(0, 1), false);
        y.pass(1);
        due("fit(0, 1), 160 wide", y.fit(0, 1), true);
    }

    private static void make() {
        makeNone();
        makeSets();
        makeRoles();
        makeSplits();
        makeNumbers();
    }

    private static void makeNone() {
        LobbyMaker x = alike(8);
        queueAll(x, 1, 2, 4, 8, 16);
        due("make() with five", x.make(), LobbyMaker.NONE);
        due("queued()", x.queued(), 5);
        LobbyMaker y = alike(8);
        queueAll(y, 3, 12, 48);
        due("make() with three parties of two", y.make(), LobbyMaker.NONE);
        y.queue(64);
        due("make() with one more", y.make(), LobbyMaker.NONE);
        y.queue(128);
        due("make() with two more", y.make(), 0);
        due("team(0, 0)", y.team(0, 0), 3 + 64);
        due("team(0, 1)", y.team(0, 1), 12 + 128);
        LobbyMaker z = lobby(new int[] {0, 0, 0, 101, 101, 101}, 7);
        queueAll(z, 7, 56);
        due("make() of two that don't fit", z.make(), LobbyMaker.NONE);
        z.pass(1);
        due("make() of two that fit", z.make(), 0);
    }

    private static void makeSets() {
        LobbyMaker x = alike(12);
        queueAll(x, 3, 4, 8 + 16, 32, 64, 128, 256);
        due("make()", x.make(), 0);
        due("its players: the parties 0, 1, 2 and 3", x.team(0, 0) | x.team(0, 1), 63);
        LobbyMaker y = alike(12);
        queueAll(y, 1, 2, 4 + 8 + 16, 32 + 64 + 128, 256, 512);
        due("make()", y.make(), 0);
        due("its players: 0, 1, 2 and 4 go before 0, 1, 3 and 4", y.team(0, 0) | y.team(0, 1), 31 + 256);
        LobbyMaker z = lobby(new int[] {4000, 1000, 1000, 1000, 1000, 1000, 1000, 1000}, 7);
        queueAll(z, 1, 2, 4, 8, 16, 32, 64);
        due("make() without the first party", z.make(), 0);
        due("its players", z.team(0, 0) | z.team(0, 1), 126);
        // All fit the first one, but not one another; and those that fit one another don't fit the first one.
        LobbyMaker v = lobby(new int[] {1000, 900, 900, 1100, 1100, 1100, 900}, 7);
        queueAll(v, 1, 2, 4, 8, 16, 32);
        due("make() of parties that fit the first one", v.make(), 0);
        LobbyMaker w = lobby(new int[] {900, 1000, 1000, 1000, 1100, 1000}, 7);
        queueAll(w, 1, 2, 4, 8, 16, 32);
        due("make() with one that does not fit the first one", w.make(), LobbyMaker.NONE);
        LobbyMaker u = lobby(new int[] {900, 1000, 1100, 1000, 1000, 1000, 1000, 1100}, 7);
        queueAll(u, 1, 2, 4, 8, 16, 32, 64, 128);
        due("make()", u.make(), 0);
        due("its players: those that fit the first one", u.team(0, 0) | u.team(0, 1), 1 + 2 + 8 + 16 + 32 + 64);
    }

    private static LobbyMaker roles(int... roles) {
        LobbyMaker x = new LobbyMaker();
        for (int r : roles) {
            x.addPlayer(1000, r);
        }
        return x;
    }

    private static void makeRoles() {
        LobbyMaker x = roles(1, 1, 1, 2, 2, 4, 4);
        queueAll(x, 1, 2, 4, 8, 16, 32, 64);
        due("make() leaves out the third of a role", x.make(), 0);
        due("its players", x.team(0, 0) | x.team(0, 1), 127 - 4);
        due("team(0, 0)", x.team(0, 0), 1 + 8 + 32);
        LobbyMaker y = roles(1, 1, 2, 4, 7, 7);
        queueAll(y, 3, 4 + 8, 16, 32);
        due("make() with two of one role in a party", y.make(), LobbyMaker.NONE);
        LobbyMaker z = roles(3, 3, 3, 7, 7, 7);
        queueAll(z, 7, 56);
        due("make() with three for two roles in a party", z.make(), LobbyMaker.NONE);
        LobbyMaker z2 = roles(7, 7, 7, 3, 3, 3);
        queueAll(z2, 7, 56);
        due("make() with three for two roles in the other party", z2.make(), LobbyMaker.NONE);
        LobbyMaker v = roles(3, 5, 6, 1, 6, 6);
        queueAll(v, 7, 56);
        due("make() with roles that go round", v.make(), 0);
        LobbyMaker w = roles(1, 2, 4, 5, 5, 7);
        queueAll(w, 7, 56);
        due("make() with the role 1 for one alone", w.make(), 0);
        LobbyMaker u = roles(1, 2, 4, 5, 5, 5);
        queueAll(u, 7, 56);
        due("make() without the role 1", u.make(), LobbyMaker.NONE);
        LobbyMaker t = roles(6, 6, 6, 1, 7, 7);
        queueAll(t, 1, 2, 4, 8, 16, 32);
        due("make() split by roles", t.make(), 0);
        due("team(0, 0)", t.team(0, 0), 1 + 2 + 8);
        LobbyMaker s = roles(1, 6, 6, 6, 6, 6);
        queueAll(s, 1, 2, 4, 8, 16, 32);
        due("make() with five for two roles", s.make(), LobbyMaker.NONE);
    }

    private static void makeSplits() {
        LobbyMaker x = lobby(new int[] {1000, 1010, 1020, 1030, 1040, 1055}, 7);
        queueAll(x, 1, 2, 4, 8, 16, 32);
        due("make()", x.make(), 0);
        // The sum is 6155: 3075 and 3080 are the closest, and only 0, 2 and 5 of those with 0 has one of them.
        due("team(0, 0)", x.team(0, 0), 1 + 4 + 32);
        due("team(0, 1)", x.team(0, 1), 2 + 8 + 16);
        due("unevenness(0)", x.unevenness(0), 5);
        LobbyMaker y = lobby(new int[] {1000, 1001, 1002, 1003, 1004, 1005}, 7);
        queueAll(y, 1, 2, 4, 8, 16, 32);
        y.make();
        // With the first one, 0 2 5 and 0 3 4 have 3007, and 0 3 5 has 3008: the one with 2 comes first.
        due("team(0, 0) of splits as even", y.team(0, 0), 1 + 4 + 32);
        due("unevenness(0)", y.unevenness(0), 1);
        LobbyMaker z = lobby(new int[] {1000, 1000, 1000, 1000, 1000, 1000}, 7);
        queueAll(z, 32, 16, 8, 4, 2, 1);
        z.make();
        due("team(0, 0) of equals: the first parties", z.team(0, 0), 56);
        due("unevenness(0)", z.unevenness(0), 0);
        LobbyMaker v = lobby(new int[] {1000, 1000, 1090, 1000, 1080, 1090}, 7);
        queueAll(v, 3, 4, 8, 48);
        v.make();
        // The sums 3090 and 3170 are more even than 3000 and 3260; the party 0 stays together.
        due("team(0, 0), parties together", v.team(0, 0), 1 + 2 + 4);
        due("unevenness(0)", v.unevenness(0), 80);
        LobbyMaker w = lobby(new int[] {1050, 1000, 1000, 1000, 1000, 1000}, 7);
        queueAll(w, 2, 1 + 4 + 8, 16, 32);
        w.make();
        due("the first party is in the team 0, with the lower sum", w.team(0, 0), 2 + 16 + 32);
        due("the party of three", w.team(0, 1), 1 + 4 + 8);
        due("unevenness(0), without its sign", w.unevenness(0), 50);
    }

    private static void makeNumbers() {
        LobbyMaker x = alike(18);
        queueAll(x, 7, 7 << 3, 7 << 6, 7 << 9, 7 << 12, 7 << 15);
        due("make()", x.make(), 0);
        due("make()", x.make(), 1);
        due("make()", x.make(), 2);
        due("make()", x.make(), LobbyMaker.NONE);
        due("team(0, 1)", x.team(0, 1), 7 << 3);
        due("team(1, 0)", x.team(1, 0), 7 << 6);
        due("team(2, 1)", x.team(2, 1), 7 << 15);
    }

    private static void accept() {
        LobbyMaker x = alike(13);
        queueAll(x, 7, 56, 7 << 6, 7 << 9);
        x.make();
        x.make();
        badAnswer("accept", x, (match, player) -> x.accept(match, player) ? 1 : 0);
        for (int p = 0; p < 5; p++) {
            int player = p;
            due("accept(0, " + p + ")", x.accept(0, p), false);
            due("matchState(0)", x.matchState(0), LobbyMaker.MADE);
            refused("accept(0, " + p + ") again", STATE, () -> x.accept(0, player) ? 1 : 0);
        }
        x.pass(2);
        due("accept(0, 5)", x.accept(0, 5), true);
        due("matchState(0)", x.matchState(0), LobbyMaker.ON);
        refused("accept(0, 5) again", STATE, () -> x.accept(0, 5) ? 1 : 0);
        due("accept(1, 6)", x.accept(1, 6), false);
        due("pass(1)", x.pass(1), 1);
        due("matchState(0), three minutes after it was made", x.matchState(0), LobbyMaker.ON);
        refused("accept(1, 7), off", STATE, () -> x.accept(1, 7) ? 1 : 0);
        x.finish(0, 0);
        refused("accept(0, 0), finished", STATE, () -> x.accept(0, 0) ? 1 : 0);
    }

    private interface Answer {
        int give(int match, int player);
    }

    /** Of 13 players, with the matches 0 of the players 0 to 5 and 1 of the players 6 to 11. */
    private static void badAnswer(String call, LobbyMaker x, Answer answer) {
        for (int none : new int[] {-1, 2, LEAST, MOST}) {
            refused(call + "(" + none + ", 0)", INDEX, () -> answer.give(none, 0));
        }
        for (int none : new int[] {-1, 13, 18, 32, LEAST, MOST}) {
            refused(call + "(0, " + none + ")", INDEX, () -> answer.give(0, none));
        }
        refused(call + "(0, 6), in another match", STATE, () -> answer.give(0, 6));
        refused(call + "(1, 0), in another match", STATE, () -> answer.give(1, 0));
        refused(call + "(1, 12), in no match", STATE, () -> answer.give(1, 12));
        due("matchState(0)", x.matchState(0), LobbyMaker.MADE);
        due("queued()", x.queued(), 0);
    }

    private static void decline() {
        LobbyMaker x = alike(13);
        queueAll(x, 3, 4, 56, 7 << 6, 7 << 9);
        x.make();
        x.make();
        badAnswer("decline", x, x::decline);
        x.accept(0, 0);
        refused("decline(0, 0), who has accepted", STATE, () -> x.decline(0, 0));
        due("decline(0, 1)", x.decline(0, 1), 5);
        refused("decline(0, 2), off", STATE, () -> x.decline(0, 2));
        due("matchState(0)", x.matchState(0), LobbyMaker.OFF);
        due("matchState(1)", x.matchState(1), LobbyMaker.MADE);
        due("state(0), of the same party", x.state(0), LobbyMaker.IDLE);
        due("barred(0), of the same party", x.barred(0), 0);
        due("state(1)", x.state(1), LobbyMaker.IDLE);
        due("state(2)", x.state(2), LobbyMaker.QUEUING);
        due("state(5)", x.state(5), LobbyMaker.QUEUING);
        due("level(1)", x.level(1), 1);
        due("level(2)", x.level(2), 0);
        acceptAll(x, 1, 63 << 6);
        refused("decline(1, 6), on", STATE, () -> x.decline(1, 6));
        x.finish(1, 0);
        refused("decline(1, 6), finished", STATE, () -> x.decline(1, 6));
        declineAgain();
        declineKeepsOrder();
    }

    private static void declineAgain() {
        LobbyMaker x = alike(6);
        x.queue(56);
        int[] minutes = {5, 10, 20, 40, 80, 80};
        for (int i = 0; i < minutes.length; i++) {
            x.queue(7);
            x.make();
            due("decline(" + i + ", 2)", x.decline(i, 2), minutes[i]);
            due("barred(2)", x.barred(2), minutes[i]);
            x.pass(minutes[i] - 1);
            refused("queue(7), barred", STATE, () -> x.queue(7));
            x.pass(1);
        }
    }

    private static void declineKeepsOrder() {
        LobbyMaker x = alike(12);
        queueAll(x, 1, 2, 4, 8, 16, 32, 64, 128);
        x.make();
        x.decline(0, 2);
        due("make()", x.make(), 1);
        due("team(1, 0), with the numbers that they had", x.team(1, 0), 1 + 2 + 8);
        due("team(1, 1)", x.team(1, 1), 16 + 32 + 64);
        due("state(7)", x.state(7), LobbyMaker.QUEUING);
    }

    private static void finish() {
        LobbyMaker x = alike(12);
        queueAll(x, 7, 56);
        refused("finish(0, 0)", INDEX, () -> finish(x, 0, 0));
        refused("finish(0, 2)", INDEX, () -> finish(x, 0, 2));
        x.make();
        refused("finish(0, 0), made", STATE, () -> finish(x, 0, 0));
        refused("finish(0, 2), made", RANGE, () -> finish(x, 0, 2));
        acceptAll(x, 0, 63);
        for (int none : new int[] {-1, 1, LEAST, MOST}) {
            refused("finish(" + none + ", 0)", INDEX, () -> finish(x, none, 0));
        }
        for (int none : new int[] {-1, 2, LEAST, MOST}) {
            refused("finish(0, " + none + ")", RANGE, () -> finish(x, 0, none));
        }
        due("matchState(0)", x.matchState(0), LobbyMaker.ON);
        x.finish(0, 0);
        due("matchState(0)", x.matchState(0), LobbyMaker.FINISHED);
        refused("finish(0, 0) again", STATE, () -> finish(x, 0, 0));
        // 350 * 500 / 8000 is 21.875, and below 0 it is rounded down to -22.
        ratingsDue(x, 1021, 1021, 1021, 978, 978, 978);
        due("uncertainty(0)", x.uncertainty(0), 315);
        due("uncertainty(3)", x.uncertainty(3), 315);
        due("state(0)", x.state(0), LobbyMaker.IDLE);
        due("state(5)", x.state(5), LobbyMaker.IDLE);
        due("queued()", x.queued(), 0);
        queueAll(x, 7 << 6, 7 << 9);
        x.make();
        x.decline(1, 6);
        refused("finish(1, 0), off", STATE, () -> finish(x, 1, 0));
        finishShares();
        finishLevels();
    }

    /** A match of two parties of three. */
    private static LobbyMaker finished(int winner, int... ratings) {
        LobbyMaker x = lobby(ratings, 7);
        queueAll(x, 7, 56);
        x.pass(1000);
        x.make();
        acceptAll(x, 0, 63);
        x.finish(0, winner);
        return x;
    }

    private static void finishShares() {
        // The means are 1033 and 1000, each rounded down: shares of 533 and 467.
        ratingsDue(finished(0, 1000, 1050, 1050, 1000, 1000, 1002), 1020, 1070, 1070, 979, 979, 981);
        ratingsDue(finished(1, 1000, 1050, 1050, 1000, 1000, 1002), 976, 1026, 1026, 1023, 1023, 1025);
        // 449 apart is a share of 949, 450 of 950, and so is all beyond; floor(350 * 50 / 8000) is 2, its loss 3.
        ratingsDue(finished(0, 1449, 1449, 1449, 1000, 1000, 1000), 1451, 1451, 1451, 997, 997, 997);
        ratingsDue(finished(1, 3000, 3000, 3000, 1000, 1000, 1000), 2958, 2958, 2958, 1041, 1041, 1041);
        ratingsDue(finished(0, 3000, 3000, 3000, 1000, 1000, 1000), 3002, 3002, 3002, 997, 997, 997);
        ratingsDue(finished(0, 1000, 1000, 1000, 3000, 3000, 3000), 1041, 1041, 1041, 2958, 2958, 2958);
        ratingsDue(finished(1, 1000, 1000, 1000, 3000, 3000, 3000), 997, 997, 997, 3002, 3002, 3002);
        // The rating stays within 0 and 4000.
        ratingsDue(finished(0, 4000, 3990, 3979, 10, 22, 0), 4000, 3992, 3981, 7, 19, 0);
        ratingsDue(finished(0, 4000, 3990, 3979, 4000, 3990, 3979), 4000, 4000, 4000, 3978, 3968, 3957);
        ratingsDue(finished(1, 0, 21, 22, 0, 21, 22), 0, 0, 0, 21, 42, 43);
        // 340 apart is a share of 840: 350 * 160 / 8000 is 7 without a rest.
        ratingsDue(finished(0, 1340, 1340, 1340, 1000, 1000, 1000), 1347, 1347, 1347, 993, 993, 993);
        // In the second match the uncertainty is 315: 315 * 50 / 8000 is 1 and nearly 2.
        LobbyMaker z = finished(0, 3000, 3000, 3000, 1000, 1000, 1000);
        queueAll(z, 7, 56);
        z.pass(1000);
        z.make();
        acceptAll(z, 1, 63);
        z.finish(1, 0);
        ratingsDue(z, 3003, 3003, 3003, 995, 995, 995);
        LobbyMaker x = finished(0, 1000, 1000, 1000, 1000, 1000, 1000);
        x.addPlayer(1000, 7);
        queueAll(x, 1 + 2 + 64, 56);
        x.make();
        acceptAll(x, 1, 1 + 2 + 64 + 56);
        x.finish(1, 1);
        // The means are 1014 and 978, so 536; a new player moves faster than those of one match, 350 against 315.
        ratingsDue(x, 999, 999, 1021, 999, 999, 999, 976);
    }

    private static void finishLevels() {
        LobbyMaker x = alike(6);
        queueAll(x, 7, 56);
        x.make();
        x.decline(0, 0);
        x.pass(5);
        x.queue(7);
        x.make();
        x.decline(1, 0);
        x.pass(10);
        x.queue(7);
        x.make();
        acceptAll(x, 2, 63);
        due("level(0)", x.level(0), 2);
        x.finish(2, 1);
        due("level(0)", x.level(0), 1);
        due("level(1), at least 0", x.level(1), 0);
        due("level(5), at least 0", x.level(5), 0);
    }

    private static void matches() {
        LobbyMaker x = alike(12);
        due("matches()", x.matches(), 0);
        x.make();
        due("matches() after none was made", x.matches(), 0);
        queueAll(x, 7, 56, 7 << 6, 7 << 9);
        x.make();
        due("matches()", x.matches(), 1);
        x.make();
        due("matches()", x.matches(), 2);
        x.decline(0, 0);
        due("matches()", x.matches(), 2);
        acceptAll(x, 1, 63 << 6);
        x.finish(1, 0);
        due("matches()", x.matches(), 2);
    }

    private static void noSuchMatch(String call, LobbyMaker x, Asked asked) {
        for (int match : new int[] {-1, x.matches(), 99, 100, LEAST, MOST}) {
            refused(call + "(" + match + ")", INDEX, () -> asked.answer(match));
        }
    }

    private static void matchState() {
        LobbyMaker x = alike(12);
        noSuchMatch("matchState", x, x::matchState);
        queueAll(x, 7, 56, 7 << 6, 7 << 9);
        x.make();
        x.make();
        noSuchMatch("matchState", x, x::matchState);
        due("matchState(0)", x.matchState(0), LobbyMaker.MADE);
        acceptAll(x, 0, 63);
        due("matchState(0)", x.matchState(0), LobbyMaker.ON);
        due("matchState(1)", x.matchState(1), LobbyMaker.MADE);
        x.finish(0, 0);
        due("matchState(0)", x.matchState(0), LobbyMaker.FINISHED);
        x.decline(1, 6);
        due("matchState(1)", x.matchState(1), LobbyMaker.OFF);
    }

    private static void team() {
        LobbyMaker x = alike(7);
        refused("team(0, 0)", INDEX, () -> x.team(0, 0));
        refused("team(0, 2)", INDEX, () -> x.team(0, 2));
        queueAll(x, 2 + 64, 1 + 8, 4, 32);
        x.make();
        noSuchMatch("team", x, match -> x.team(match, 0));
        noSuchMatch("team", x, match -> x.team(match, 2));
        for (int none : new int[] {-1, 2, LEAST, MOST}) {
            refused("team(0, " + none + ")", RANGE, () -> x.team(0, none));
        }
        due("team(0, 0)", x.team(0, 0), 2 + 64 + 4);
        due("team(0, 1)", x.team(0, 1), 1 + 8 + 32);
        x.decline(0, 1);
        due("team(0, 0), off", x.team(0, 0), 2 + 64 + 4);
        due("team(0, 1), off", x.team(0, 1), 1 + 8 + 32);
    }

    private static void unevenness() {
        LobbyMaker x = lobby(new int[] {1000, 1000, 1000, 1000, 1000, 1070}, 7);
        noSuchMatch("unevenness", x, x::unevenness);
        queueAll(x, 7, 56);
        x.make();
        noSuchMatch("unevenness", x, x::unevenness);
        due("unevenness(0)", x.unevenness(0), 70);
        acceptAll(x, 0, 63);
        x.finish(0, 1);
        due("unevenness(0), as when the match was made", x.unevenness(0), 70);
        LobbyMaker y = playing(4000, 4000, 4000, 0, 0, 0);
        due("unevenness(0)", y.unevenness(0), 4000);
    }

    private static void pass() {
        LobbyMaker x = alike(13);
        for (int minutes : new int[] {0, -1, 1001, LEAST, MOST}) {
            refused("pass(" + minutes + ")", RANGE, () -> x.pass(minutes));
        }
        due("pass(1)", x.pass(1), 0);
        queueAll(x, 3, 4, 56, 7 << 6, 7 << 9);
        x.make();
        due("pass(1)", x.pass(1), 0);
        x.make();
        x.accept(0, 2);
        x.accept(0, 3);
        x.accept(0, 4);
        x.accept(0, 1);
        due("pass(1)", x.pass(1), 0);
        due("matchState(0), after two minutes", x.matchState(0), LobbyMaker.MADE);
        due("pass(1)", x.pass(1), 1);
        due("matchState(0), after three minutes", x.matchState(0), LobbyMaker.OFF);
        due("matchState(1), after two minutes", x.matchState(1), LobbyMaker.MADE);
        due("state(0), not accepted", x.state(0), LobbyMaker.IDLE);
        due("state(1), of the same party", x.state(1), LobbyMaker.IDLE);
        due("state(2), accepted", x.state(2), LobbyMaker.QUEUING);
        due("state(5), not accepted", x.state(5), LobbyMaker.IDLE);
        due("state(4), of the same party", x.state(4), LobbyMaker.IDLE);
        due("queued()", x.queued(), 1);
        due("window(1)", x.window(1), 160);
        int[] levels = {1, 0, 0, 0, 0, 1};
        for (int p = 0; p < levels.length; p++) {
            due("level(" + p + ")", x.level(p), levels[p]);
            due("barred(" + p + ")", x.barred(p), 5 * levels[p]);
        }
        passTooLong();
        passLate();
        passEnd();
    }

    private static void passTooLong() {
        LobbyMaker x = alike(18);
        queueAll(x, 7, 7 << 3, 7 << 6, 7 << 9, 7 << 12, 7 << 15);
        x.make();
        x.pass(1);
        x.make();
        x.make();
        acceptAll(x, 2, 63 << 12);
        due("pass(6)", x.pass(6), 2);
        due("matchState(2), on", x.matchState(2), LobbyMaker.ON);
        due("barred(0), from the third minute on", x.barred(0), 1);
        due("barred(6), from the fourth minute on", x.barred(6), 2);
        due("level(0)", x.level(0), 1);
        due("queued()", x.queued(), 0);
        due("pass(1)", x.pass(1), 0);
        due("level(0), once", x.level(0), 1);
        due("barred(0)", x.barred(0), 0);
        due("queue(7)", x.queue(7), 6);
    }

    private static void passLate() {
        LobbyMaker x = alike(6);
        queueAll(x, 7, 56);
        x.make();
        acceptAll(x, 0, 62);
        x.pass(1000);
        due("barred(0)", x.barred(0), 0);
        due("level(0)", x.level(0), 1);
        due("state(3)", x.state(3), LobbyMaker.QUEUING);
        due("state(2)", x.state(2), LobbyMaker.IDLE);
        due("leave(1)", x.leave(1), 1000);
    }

    private static void passEnd() {
        LobbyMaker x = alike(6);
        for (int i = 0; i < 99; i++) {
            due("pass(1000)", x.pass(1000), 0);
        }
        due("pass(999)", x.pass(999), 0);
        queueAll(x, 7, 56);
        x.make();
        refused("pass(2) beyond the end", STATE, () -> x.pass(2));
        refused("pass(1000) beyond the end", STATE, () -> x.pass(1000));
        refused("pass(1001) beyond the end", RANGE, () -> x.pass(1001));
        due("clock()", x.clock(), 99999);
        due("matchState(0)", x.matchState(0), LobbyMaker.MADE);
        due("pass(1)", x.pass(1), 0);
        due("clock()", x.clock(), 100000);
        refused("pass(1) beyond the end", STATE, () -> x.pass(1));
        refused("pass(0) at the end", RANGE, () -> x.pass(0));
    }

    private static void clock() {
        LobbyMaker x = alike(1);
        due("clock()", x.clock(), 0);
        x.pass(1);
        due("clock()", x.clock(), 1);
        x.pass(1000);
        due("clock()", x.clock(), 1001);
        x.queue(1);
        x.make();
        x.leave(0);
        due("clock()", x.clock(), 1001);
    }

    private static void constants() {
        due("NONE", LobbyMaker.NONE, -1);
        due("IDLE", LobbyMaker.IDLE, 0);
        due("QUEUING", LobbyMaker.QUEUING, 1);
        due("IN_MATCH", LobbyMaker.IN_MATCH, 2);
        due("MADE", LobbyMaker.MADE, 0);
        due("ON", LobbyMaker.ON, 1);
        due("OFF", LobbyMaker.OFF, 2);
        due("FINISHED", LobbyMaker.FINISHED, 3);
    }

    public static void main(String[] args) {
        Runnable[] promises = {
            PromiseTest::constants, PromiseTest::newObject, PromiseTest::addPlayer, PromiseTest::queue,
            PromiseTest::leave, PromiseTest::players, PromiseTest::state, PromiseTest::rating,
            PromiseTest::uncertainty, PromiseTest::level, PromiseTest::barred, PromiseTest::queued,
            PromiseTest::window, PromiseTest::fit, PromiseTest::make, PromiseTest::accept, PromiseTest::decline,
            PromiseTest::finish, PromiseTest::matches, PromiseTest::matchState, PromiseTest::team,
            PromiseTest::unevenness, PromiseTest::pass, PromiseTest::clock,
        };
        for (int promise = 0; promise < promises.length; promise++) {
            run("promise " + promise, promises[promise]);
        }
        end("all answers are as due", "answers are not as due");
    }
}
