/** The edges of the 23 promises: for each line of theirs what is just within it, and what is just beyond. */
public final class PromiseEdgesTest extends DocTest {
    /** Numbers beyond a list: just before and after it, where shifts of 32 bits wrap around, and where int does. */
    private static int[] beyond(int size) {
        return new int[] {-1, size, size + 1, -32, 32 + size, 64 + size, 1 << 16, LEAST, LEAST + 1, MOST};
    }

    private interface Asked {
        Object answer(int number);
    }

    private static void noneBeyond(String call, int size, Asked asked) {
        for (int number : beyond(size)) {
            refused(call + " of " + number, INDEX, () -> asked.answer(number));
        }
    }

    /** Without any players, with one, and with 18. */
    private static void noPlayer(String call, int operation) {
        for (int size : new int[] {0, 1, 18}) {
            LobbyMaker x = alike(size);
            noneBeyond(call + " of " + size + " players", size, player -> answer(x, operation, player, 0));
            for (int player = 0; player < size; player++) {
                answer(x, operation, player, 0);
            }
        }
    }

    /** With no parties, with one that queues, and with two, none of which does. */
    private static void noParty(String call, int operation) {
        LobbyMaker x = alike(6);
        noneBeyond(call + " without parties", 0, party -> answer(x, operation, party, 0));
        x.queue(7);
        noneBeyond(call + " with a party", 1, party -> answer(x, operation, party, 0));
        x.queue(56);
        x.make();
        noneBeyond(call + " with two parties", 2, party -> answer(x, operation, party, 0));
    }

    /** With no matches, and with two. */
    private static void noMatch(String call, int operation, int argument) {
        LobbyMaker x = alike(12);
        noneBeyond(call + " without matches", 0, match -> answer(x, operation, match, argument));
        queueAll(x, 7, 7 << 3, 7 << 6, 7 << 9);
        x.make();
        noneBeyond(call + " with a match", 1, match -> answer(x, operation, match, argument));
        x.make();
        x.decline(0, 0);
        acceptAll(x, 1, 63 << 6);
        noneBeyond(call + " with two matches", 2, match -> answer(x, operation, match, argument));
    }

    private static LobbyMaker at(int minute) {
        LobbyMaker x = alike(7);
        while (x.clock() < minute) {
            x.pass(Math.min(1000, minute - x.clock()));
        }
        return x;
    }

    // ---- a new object

    private static void newObject() {
        LobbyMaker x = new LobbyMaker();
        due("players()", x.players(), 0);
        due("clock()", x.clock(), 0);
        due("queued()", x.queued(), 0);
        due("matches()", x.matches(), 0);
        due("make()", x.make(), LobbyMaker.NONE);
        refused("queue(0)", RANGE, () -> x.queue(0));
        refused("queue(1)", RANGE, () -> x.queue(1));
        refused("queue(-1)", RANGE, () -> x.queue(-1));
        refused("accept(0, 0)", INDEX, () -> x.accept(0, 0));
        refused("decline(0, 0)", INDEX, () -> x.decline(0, 0));
        refused("finish(0, 0)", INDEX, () -> finish(x, 0, 0));
        due("pass(1000)", x.pass(1000), 0);
        due("clock() of another one", new LobbyMaker().clock(), 0);
    }

    // ---- players and parties

    private static void addPlayerRating() {
        for (int rating : new int[] {0, 1, 3999, 4000}) {
            LobbyMaker x = new LobbyMaker();
            due("addPlayer(" + rating + ", 7)", x.addPlayer(rating, 7), 0);
            due("rating(0)", x.rating(0), rating);
        }
    }

    private static void addPlayerRoles() {
        LobbyMaker x = new LobbyMaker();
        for (int roles = 1; roles <= 7; roles++) {
            due("addPlayer(1000, " + roles + ")", x.addPlayer(1000, roles), roles - 1);
        }
        // The players 0, 1 and 3 have one role each, and 2 (both roles 0 and 1), 4 and 5 can share them out.
        queueAll(x, 1 + 2 + 8, 4 + 16 + 32);
        due("make() of one role each", x.make(), 0);
    }

    private static void addPlayerNumber() {
        LobbyMaker x = new LobbyMaker();
        due("addPlayer(0, 1)", x.addPlayer(0, 1), 0);
        refused("addPlayer(4001, 1)", RANGE, () -> x.addPlayer(4001, 1));
        due("addPlayer(0, 1) after one that threw", x.addPlayer(0, 1), 1);
        for (int i = 2; i < 18; i++) {
            due("addPlayer(0, 1)", x.addPlayer(0, 1), i);
        }
    }

    private static void addPlayerRange() {
        LobbyMaker x = new LobbyMaker();
        for (int rating : new int[] {-1, 4001, LEAST, MOST, 1 << 16, -4000}) {
            refused("addPlayer(" + rating + ", 7)", RANGE, () -> x.addPlayer(rating, 7));
        }
        for (int roles : new int[] {0, 8, -1, 15, LEAST, MOST, 1 << 16 | 7, LEAST | 7}) {
            refused("addPlayer(1000, " + roles + ")", RANGE, () -> x.addPlayer(1000, roles));
        }
        refused("addPlayer(-1, 0)", RANGE, () -> x.addPlayer(-1, 0));
        due("players()", x.players(), 0);
    }

    private static void addPlayerFull() {
        LobbyMaker x = alike(17);
        due("addPlayer, the 18th", x.addPlayer(1000, 7), 17);
        refused("addPlayer, the 19th", STATE, () -> x.addPlayer(1000, 7));
        refused("addPlayer, once more", STATE, () -> x.addPlayer(0, 1));
        due("players()", x.players(), 18);
    }

    private static void queuePlayers() {
        LobbyMaker x = alike(18);
        due("queue of the first player", x.queue(1), 0);
        due("state(0)", x.state(0), LobbyMaker.QUEUING);
        due("state(1)", x.state(1), LobbyMaker.IDLE);
        due("queue of the last player", x.queue(1 << 17), 1);
        due("state(17)", x.state(17), LobbyMaker.QUEUING);
        due("queue of two", x.queue(2 + (1 << 16)), 2);
        due("queue of three", x.queue(4 + 8 + (1 << 15)), 3);
        for (int p : new int[] {1, 2, 3, 15, 16}) {
            due("state(" + p + ")", x.state(p), LobbyMaker.QUEUING);
        }
        due("state(4)", x.state(4), LobbyMaker.IDLE);
    }

    private static void queueNumber() {
        LobbyMaker x = alike(3);
        due("queue(4)", x.queue(4), 0);
        refused("queue(4) again", STATE, () -> x.queue(4));
        due("queue(1) after one that threw", x.queue(1), 1);
        x.leave(0);
        x.leave(1);
        due("queue(1) after all have left", x.queue(1), 2);
    }

    private static void queueRange() {
        LobbyMaker none = new LobbyMaker();
        refused("queue(1) without players", RANGE, () -> none.queue(1));
        LobbyMaker x = alike(6);
        for (int players : new int[] {0, 15, 30, 63, 64, 65, 1 << 17, 1 << 18, 1 << 30, 1 << 31, LEAST + 1, -1, -2, MOST}) {
            refused("queue(" + players + ") of six", RANGE, () -> x.queue(players));
        }
        due("queued()", x.queued(), 0);
        LobbyMaker full = alike(18);
        for (int players : new int[] {0, 15, (1 << 18) - 1, 1 << 18, 1 << 31, 1 + (1 << 18), 3 + (1 << 31), -1}) {
            refused("queue(" + players + ") of eighteen", RANGE, () -> full.queue(players));
        }
        due("queued()", full.queued(), 0);
    }

    private static void queueState() {
        LobbyMaker x = alike(7);
        x.queue(1);
        refused("queue(1), queuing", STATE, () -> x.queue(1));
        refused("queue(7), one of them queuing", STATE, () -> x.queue(7));
        due("state(1)", x.state(1), LobbyMaker.IDLE);
        LobbyMaker made = made();
        refused("queue(32), in a match made", STATE, () -> made.queue(32));
        refused("queue(96), one of them in a match made", STATE, () -> made.queue(96));
        LobbyMaker on = on();
        refused("queue(32), in a match on", STATE, () -> on.queue(32));
        LobbyMaker off = off();
        refused("queue(1), barred", STATE, () -> off.queue(1));
        refused("queue(65), one of them barred", STATE, () -> off.queue(65));
        refused("queue(8), queuing again", STATE, () -> off.queue(8));
        due("queue(2), of the barred one's party", off.queue(2), 2);
        due("queue(1) after a match", finished().queue(1), 2);
        LobbyMaker hundred = alike(2);
        for (int i = 0; i < 99; i++) {
            hundred.queue(1);
            hundred.leave(i);
        }
        due("queue(1), the hundredth", hundred.queue(1), 99);
        refused("queue(2) after a hundred", STATE, () -> hundred.queue(2));
        due("state(1)", hundred.state(1), LobbyMaker.IDLE);
        hundred.leave(99);
        refused("queue(2) after a hundred that have left", STATE, () -> hundred.queue(2));
    }

    private static void leaveQueue() {
        LobbyMaker x = queuing();
        x.queue(64);
        x.leave(0);
        for (int p = 0; p < 7; p++) {
            due("state(" + p + ")", x.state(p), p < 3 ? LobbyMaker.IDLE : LobbyMaker.QUEUING);
        }
        due("queued()", x.queued(), 2);
        due("make() without the party that has left", x.make(), LobbyMaker.NONE);
        x.leave(2);
        x.leave(1);
        due("queued(), empty", x.queued(), 0);
        due("queue(7) of those who have left", x.queue(7), 3);
    }

    private static void leaveMinutes() {
        LobbyMaker x = alike(7);
        x.queue(1);
        due("leave(0) at once", x.leave(0), 0);
        x.queue(1);
        x.pass(1);
        due("leave(1) after a minute", x.leave(1), 1);
        queueAll(x, 7, 56);
        x.pass(2);
        x.make();
        x.pass(2);
        x.decline(0, 3);
        due("leave(2), which has been in a match", x.leave(2), 4);
        LobbyMaker y = alike(1);
        y.queue(1);
        for (int i = 0; i < 100; i++) {
            y.pass(1000);
        }
        due("leave(0) after all minutes", y.leave(0), 100000);
        due("state(0)", y.state(0), LobbyMaker.IDLE);
    }

    private static void leaveState() {
        doesNotQueue("leave", 2);
    }

    /** Parties that have left, that are in a match, and that are out of one. */
    private static void doesNotQueue(String call, int operation) {
        LobbyMaker x = alike(2);
        x.queue(3);
        x.leave(0);
        refused(call + "(0), which has left", STATE, () -> answer(x, operation, 0, 0));
        x.queue(3);
        refused(call + "(0), whose players queue as another party", STATE, () -> answer(x, operation, 0, 0));
        for (LobbyMaker y : new LobbyMaker[] {made(), on(), finished()}) {
            refused(call + "(0) of a match", STATE, () -> answer(y, operation, 0, 0));
            refused(call + "(1) of a match", STATE, () -> answer(y, operation, 1, 0));
        }
        LobbyMaker off = off();
        refused(call + "(0), of whom one has declined", STATE, () -> answer(off, operation, 0, 0));
        answer(off, operation, 1, 1);
        LobbyMaker late = made();
        late.pass(3);
        refused(call + "(1), which has not accepted", STATE, () -> answer(late, operation, 1, 0));
    }

    private static void numberOfPlayers() {
        LobbyMaker x = new LobbyMaker();
        for (int i = 0; i < 18; i++) {
            due("players()", x.players(), i);
            x.addPlayer(1000, 7);
        }
        due("players(), full", x.players(), 18);
    }

    private static void stateOfPlayer() {
        due("state(6), in no party", made().state(6), LobbyMaker.IDLE);
        due("state(5) of a match made", made().state(5), LobbyMaker.IN_MATCH);
        due("state(5) of a match on", on().state(5), LobbyMaker.IN_MATCH);
        due("state(5) of a match off", off().state(5), LobbyMaker.QUEUING);
        due("state(0), who has declined", off().state(0), LobbyMaker.IDLE);
        due("state(1), of that one's party", off().state(1), LobbyMaker.IDLE);
        due("state(5) of a match finished", finished().state(5), LobbyMaker.IDLE);
        LobbyMaker x = off();
        x.queue(2);
        due("state(1), in another party", x.state(1), LobbyMaker.QUEUING);
        x.leave(1);
        due("state(5), who has left", x.state(5), LobbyMaker.IDLE);
    }

    private static void ratingOfPlayer() {
        LobbyMaker x = lobby(new int[] {0, 4000, 1}, 7);
        due("rating(0)", x.rating(0), 0);
        due("rating(1)", x.rating(1), 4000);
        due("rating(2)", x.rating(2), 1);
        due("rating(0) of a match off", off().rating(0), 1000);
        due("rating(0) of a match on", on().rating(0), 1000);
        due("rating(0), who has won", finished().rating(0), 1021);
        due("rating(6), who has not played", finished().rating(6), 1000);
    }

    private static void uncertaintyOfPlayer() {
        due("uncertainty(0) of a match on", on().uncertainty(0), 350);
        due("uncertainty(0) of a match off", off().uncertainty(0), 350);
        due("uncertainty(0), who has won", finished().uncertainty(0), 315);
        due("uncertainty(5), who has lost", finished().uncertainty(5), 315);
        due("uncertainty(6), who has not played", finished().uncertainty(6), 350);
    }

    private static void levelOfPlayer() {
        due("level(0), who has declined", off().level(0), 1);
        due("level(1), of that one's party", off().level(1), 0);
        due("level(0) of a match made", made().level(0), 0);
        due("level(0) of a match finished", finished().level(0), 0);
        LobbyMaker x = alike(6);
        x.queue(56);
        for (int i = 0; i < 6; i++) {
            x.queue(7);
            x.make();
            x.decline(i, 0);
            x.pass(80);
        }
        due("level(0), who has declined six times", x.level(0), 5);
    }

    private static void minutesBarred() {
        LobbyMaker x = off();
        for (int minutes = 5; minutes > 0; minutes--) {
            due("barred(0)", x.barred(0), minutes);
            x.pass(1);
        }
        due("barred(0) at the time", x.barred(0), 0);
        x.pass(1);
        due("barred(0) after the time", x.barred(0), 0);
        x.pass(1000);
        due("barred(0) long after it", x.barred(0), 0);
        due("barred(1), never barred", x.barred(1), 0);
        LobbyMaker last = at(100000);
        queueAll(last, 7, 56);
        last.make();
        due("decline(0, 0) in the last minute", last.decline(0, 0), 5);
        due("barred(0) beyond the end of the clock", last.barred(0), 5);
    }

    private static void partiesInTheQueue() {
        LobbyMaker x = alike(18);
        due("queued(), empty", x.queued(), 0);
        for (int i = 0; i < 18; i++) {
            x.queue(1 << i);
            due("queued()", x.queued(), i + 1);
        }
        x.make();
        due("queued() with six in a match", x.queued(), 12);
        x.decline(0, 0);
        due("queued() with five back", x.queued(), 17);
        for (int i = 1; i < 18; i++) {
            x.leave(i);
        }
        due("queued(), empty again", x.queued(), 0);
        due("queued() of parties, not of players", alikeQueuing(3, 12, 48).queued(), 3);
    }

    private static LobbyMaker alikeQueuing(int... parties) {
        LobbyMaker x = alike(18);
        queueAll(x, parties);
        return x;
    }

    private static void windowOfParty() {
        LobbyMaker x = alikeQueuing(7);
        due("window(0)", x.window(0), 100);
        x.pass(1);
        x.queue(56);
        due("window(0)", x.window(0), 120);
        due("window(1)", x.window(1), 100);
        x.make();
        x.pass(2);
        x.decline(0, 0);
        due("window(1), which has been in a match", x.window(1), 140);
        for (int i = 0; i < 99; i++) {
            x.pass(1000);
        }
        x.pass(997);
        due("window(1) at the end of the clock", x.window(1), 100 + 20 * 99999);
    }

    private static void windowState() {
        doesNotQueue("window", 10);
    }

    private static void fitOfParties() {
        LobbyMaker x = lobby(new int[] {0, 100, 101, 4000}, 7);
        queueAll(x, 1, 2, 4, 8);
        for (int party = 0; party < 4; party++) {
            due("fit of a party with itself", x.fit(party, party), true);
        }
        due("fit, 100 apart", x.fit(0, 1), true);
        due("fit, 100 apart the other way round", x.fit(1, 0), true);
        due("fit, 101 apart", x.fit(0, 2), false);
        due("fit, 101 apart the other way round", x.fit(2, 0), false);
        due("fit, 4000 apart", x.fit(3, 0), false);
    }

    private static void fitIndex() {
        LobbyMaker none = alike(2);
        noneBeyond("fit of a party with itself, without parties,", 0, party -> none.fit(party, party));
        LobbyMaker x = alikeQueuing(7, 56);
        noneBeyond("fit(0, other)", 2, other -> x.fit(0, other));
        noneBeyond("fit(party, 1)", 2, party -> x.fit(party, 1));
        x.leave(0);
        noneBeyond("fit(0, other), 0 has left,", 2, other -> x.fit(0, other));
        noneBeyond("fit(party, 0), 0 has left,", 2, party -> x.fit(party, 0));
    }

    private static void fitState() {
        LobbyMaker x = alikeQueuing(1, 2, 4);
        x.leave(1);
        refused("fit(0, 1)", STATE, () -> x.fit(0, 1));
        refused("fit(1, 0)", STATE, () -> x.fit(1, 0));
        refused("fit(1, 1)", STATE, () -> x.fit(1, 1));
        due("fit(0, 2)", x.fit(0, 2), true);
        for (LobbyMaker y : new LobbyMaker[] {made(), on(), off(), finished()}) {
            y.queue(64);
            refused("fit of a party of a match with one that queues", STATE, () -> y.fit(0, 2));
            refused("fit of one that queues with a party of a match", STATE, () -> y.fit(2, 0));
        }
        LobbyMaker off = off();
        off.queue(64);
        due("fit of one that queues again", off.fit(1, 2), true);
    }

    // ---- matches

    private static void makeNumber() {
        LobbyMaker x = alike(18);
        due("make(), nobody queues", x.make(), LobbyMaker.NONE);
        queueAll(x, 7);
        due("make(), a party alone", x.make(), LobbyMaker.NONE);
        queueAll(x, 7 << 3, 7 << 6, 7 << 9, 7 << 12, 7 << 15);
        due("make(), full", x.make(), 0);
        due("make()", x.make(), 1);
        due("make()", x.make(), 2);
        due("make(), nobody left", x.make(), LobbyMaker.NONE);
        x.decline(0, 0);
        x.decline(1, 6);
        due("make() of the two parties back", x.make(), 3);
    }

    private static void acceptAnswer() {
        LobbyMaker x = made();
        for (int p = 0; p < 5; p++) {
            due("accept(0, " + p + ")", x.accept(0, p), false);
        }
        due("accept(0, 5), the last one", x.accept(0, 5), true);
        LobbyMaker y = made();
        y.decline(0, 0);
        y.pass(5);
        y.queue(7);
        due("make()", y.make(), 1);
        for (int p = 1; p < 6; p++) {
            due("accept(1, " + p + ")", y.accept(1, p), false);
        }
        due("accept(1, 0), the last one of another match", y.accept(1, 0), true);
        due("matchState(0)", y.matchState(0), LobbyMaker.OFF);
    }

    private static void noMatchOrPlayer(String call, int operation) {
        noMatch(call, operation, 0);
        for (LobbyMaker x : new LobbyMaker[] {made(), on(), off(), finished()}) {
            noneBeyond(call + " of the match 0 by", 7, player -> answer(x, operation, 0, player));
            refused(call + " of the match 1 by 7", INDEX, () -> answer(x, operation, 1, 7));
        }
    }

    private static void doesNotWait(String call, int operation) {
        for (LobbyMaker x : new LobbyMaker[] {on(), off(), finished()}) {
            for (int player = 0; player < 7; player++) {
                int p = player;
                refused(call + "(0, " + p + ") of a match that does not wait", STATE, () -> answer(x, operation, 0, p));
            }
        }
        LobbyMaker late = made();
        late.pass(3);
        refused(call + "(0, 0) after three minutes", STATE, () -> answer(late, operation, 0, 0));
        LobbyMaker x = alike(13);
        queueAll(x, 7, 7 << 3, 7 << 6, 7 << 9);
        x.make();
        x.make();
        refused(call + "(0, 6), who is in the match 1", STATE, () -> answer(x, operation, 0, 6));
        refused(call + "(1, 5), who is in the match 0", STATE, () -> answer(x, operation, 1, 5));
        refused(call + "(0, 12), who is in none", STATE, () -> answer(x, operation, 0, 12));
        x.accept(0, 0);
        refused(call + "(0, 0), who has accepted", STATE, () -> answer(x, operation, 0, 0));
        due("matchState(0)", x.matchState(0), LobbyMaker.MADE);
        LobbyMaker again = off();
        again.pass(5);
        again.queue(7);
        again.make();
        refused(call + "(0, 1), who is in the match 1 now", STATE, () -> answer(again, operation, 0, 1));
        answer(again, operation, 1, 1);
    }

    private static void declineAnswer() {
        LobbyMaker x = alike(6);
        x.queue(56);
        int[] minutes = {5, 10, 20, 40, 80, 80, 80};
        for (int i = 0; i < minutes.length; i++) {
            x.queue(7);
            x.make();
            x.pass(2);
            due("decline(" + i + ", 0)", x.decline(i, 0), minutes[i]);
            x.pass(80);
        }
        x.queue(7);
        x.make();
        due("decline by another player", x.decline(7, 5), 5);
    }

    private static void finishWinner() {
        LobbyMaker x = on();
        x.finish(0, 0);
        ratingsDue(x, 1021, 1021, 1021, 978, 978, 978, 1000);
        LobbyMaker y = on();
        y.finish(0, 1);
        ratingsDue(y, 978, 978, 978, 1021, 1021, 1021, 1000);
    }

    private static final int[] NO_TEAMS = {-1, 2, 3, -2, 32, 1 << 16, LEAST, LEAST + 1, MOST};

    private static void finishRange() {
        for (int winner : NO_TEAMS) {
            LobbyMaker on = on();
            refused("finish(0, " + winner + ")", RANGE, () -> finish(on, 0, winner));
            due("matchState(0)", on.matchState(0), LobbyMaker.ON);
            due("rating(0)", on.rating(0), 1000);
            LobbyMaker made = made();
            refused("finish(0, " + winner + ") of a match that waits", RANGE, () -> finish(made, 0, winner));
        }
    }

    private static void finishState() {
        for (LobbyMaker x : new LobbyMaker[] {made(), off(), finished()}) {
            int rating = x.rating(0);
            refused("finish(0, 0) of a match that does not go on", STATE, () -> finish(x, 0, 0));
            refused("finish(0, 1) of a match that does not go on", STATE, () -> finish(x, 0, 1));
            due("rating(0)", x.rating(0), rating);
        }
        LobbyMaker x = made();
        acceptAll(x, 0, 31);
        refused("finish(0, 0), five have accepted", STATE, () -> finish(x, 0, 0));
        x.accept(0, 5);
        x.finish(0, 0);
        due("matchState(0)", x.matchState(0), LobbyMaker.FINISHED);
    }

    private static void matchesMade() {
        LobbyMaker x = alike(12);
        due("matches()", x.matches(), 0);
        due("make()", x.make(), LobbyMaker.NONE);
        due("matches() after NONE", x.matches(), 0);
        queueAll(x, 7, 7 << 3, 7 << 6, 7 << 9);
        x.make();
        due("matches()", x.matches(), 1);
        x.make();
        due("matches()", x.matches(), 2);
        x.decline(0, 0);
        acceptAll(x, 1, 63 << 6);
        x.finish(1, 1);
        due("matches(), all over", x.matches(), 2);
    }

    private static void stateOfMatch() {
        due("matchState(0)", made().matchState(0), LobbyMaker.MADE);
        due("matchState(0)", on().matchState(0), LobbyMaker.ON);
        due("matchState(0)", off().matchState(0), LobbyMaker.OFF);
        due("matchState(0)", finished().matchState(0), LobbyMaker.FINISHED);
        LobbyMaker x = made();
        x.pass(2);
        due("matchState(0) after two minutes", x.matchState(0), LobbyMaker.MADE);
        x.pass(1);
        due("matchState(0) after three minutes", x.matchState(0), LobbyMaker.OFF);
        LobbyMaker y = on();
        y.pass(1000);
        due("matchState(0), on for long", y.matchState(0), LobbyMaker.ON);
    }

    private static void playersOfTeam() {
        LobbyMaker x = alike(18);
        queueAll(x, 1 << 17, 1 + 2 + 4, (1 << 16) + (1 << 15));
        x.make();
        due("team(0, 0)", x.team(0, 0), 7 << 15);
        due("team(0, 1)", x.team(0, 1), 7);
        x.decline(0, 17);
        due("team(0, 0), off", x.team(0, 0), 7 << 15);
        x.pass(5);
        queueAll(x, (1 << 17) + 8 + 16);
        due("make() with others", x.make(), 1);
        due("team(0, 0), as it was", x.team(0, 0), 7 << 15);
        due("team(0, 1), as it was", x.team(0, 1), 7);
        due("team(1, 0)", x.team(1, 0), 7);
        due("team(1, 1)", x.team(1, 1), (1 << 17) + 8 + 16);
        due("team(0, 0) of a match finished", finished().team(0, 0), 7);
        due("team(0, 1) of a match finished", finished().team(0, 1), 56);
    }

    private static void teamNumbers() {
        due("team(0, 0)", made().team(0, 0), 7);
        due("team(0, 1)", made().team(0, 1), 56);
    }

    private static void teamRange() {
        for (LobbyMaker x : new LobbyMaker[] {made(), on(), off(), finished()}) {
            for (int team : NO_TEAMS) {
                refused("team(0, " + team + ")", RANGE, () -> x.team(0, team));
            }
        }
    }

    private static LobbyMaker threeAgainstThree(int zero, int one) {
        LobbyMaker x = lobby(new int[] {zero, zero, zero, one, one, one}, 7);
        queueAll(x, 7, 56);
        x.pass(195);
        due("make()", x.make(), 0);
        return x;
    }

    private static void unevennessOfMatch() {
        due("unevenness(0) of equals", made().unevenness(0), 0);
        due("unevenness(0), the most there can be", threeAgainstThree(4000, 0).unevenness(0), 12000);
        due("unevenness(0), with the team 1 ahead", threeAgainstThree(0, 4000).unevenness(0), 12000);
        LobbyMaker x = threeAgainstThree(1000, 1001);
        due("unevenness(0)", x.unevenness(0), 3);
        acceptAll(x, 0, 63);
        x.finish(0, 0);
        due("unevenness(0), as when the match was made", x.unevenness(0), 3);
        due("unevenness(0) of a match off", off().unevenness(0), 0);
    }

    private static void passTime() {
        LobbyMaker x = off();
        x.queue(64);
        x.pass(1);
        due("clock()", x.clock(), 1);
        due("window(2)", x.window(2), 120);
        due("barred(0)", x.barred(0), 4);
        due("queued()", x.queued(), 2);
        x.pass(1);
        due("leave(2)", x.leave(2), 2);
    }

    private static void passMinutes() {
        LobbyMaker x = alike(1);
        x.pass(1);
        due("clock() after pass(1)", x.clock(), 1);
        x.pass(1000);
        due("clock() after pass(1000)", x.clock(), 1001);
    }

    private static void passAnswer() {
        LobbyMaker x = alike(18);
        due("pass(1000) without matches", x.pass(1000), 0);
        queueAll(x, 7, 7 << 3, 7 << 6, 7 << 9, 7 << 12, 7 << 15);
        x.make();
        x.make();
        x.make();
        due("pass(2)", x.pass(2), 0);
        due("pass(1), three at once", x.pass(1), 3);
        due("pass(1), no more", x.pass(1), 0);
        LobbyMaker y = made();
        due("pass(1000)", y.pass(1000), 1);
        due("pass(1000) of a match on", on().pass(1000), 0);
        due("pass(1000) of a match off", off().pass(1000), 0);
        due("pass(1000) of a match finished", finished().pass(1000), 0);
    }

    private static void passRange() {
        LobbyMaker x = made();
        x.pass(2);
        for (int minutes : new int[] {0, -1, 1001, 1 << 16, 100000, 100001, LEAST, LEAST + 1, MOST, MOST - 1}) {
            refused("pass(" + minutes + ")", RANGE, () -> x.pass(minutes));
        }
        due("clock()", x.clock(), 2);
        due("matchState(0)", x.matchState(0), LobbyMaker.MADE);
    }

    private static void passState() {
        LobbyMaker x = at(99000);
        queueAll(x, 7, 56);
        due("make()", x.make(), 0);
        due("pass(1000) to the end of the clock", x.pass(1000), 1);
        due("clock()", x.clock(), 100000);
        refused("pass(1) beyond it", STATE, () -> x.pass(1));
        refused("pass(1000) beyond it", STATE, () -> x.pass(1000));
        LobbyMaker y = at(99001);
        queueAll(y, 7, 56);
        y.make();
        refused("pass(1000) by one too many", STATE, () -> y.pass(1000));
        due("clock()", y.clock(), 99001);
        due("matchState(0)", y.matchState(0), LobbyMaker.MADE);
        due("pass(999)", y.pass(999), 1);
    }

    private static void clock() {
        due("clock()", new LobbyMaker().clock(), 0);
        due("clock()", at(1).clock(), 1);
        due("clock(), the highest", at(100000).clock(), 100000);
        due("clock() after calls that take no time", finished().clock(), 0);
    }

    private static void playersAndParties() {
        under("Promise 1: A new object");
        sentence("No players; it is the minute 0.", PromiseEdgesTest::newObject);
        under("Promise 2: addPlayer");
        sentence("Adds a player.", () -> due("players()", alike(1).players(), 1));
        sentence("- `rating`: 0 to 4000", PromiseEdgesTest::addPlayerRating);
        sentence("- `roles`: 1 to 7: bit r stands for the role r", PromiseEdgesTest::addPlayerRoles);
        sentence("Returns the number of the player.", PromiseEdgesTest::addPlayerNumber);
        sentence("Throws `IllegalArgumentException` if an argument is out of range", PromiseEdgesTest::addPlayerRange);
        sentence("Throws `IllegalStateException` if there are 18", PromiseEdgesTest::addPlayerFull);
        under("Promise 3: queue");
        sentence("Lets players queue as a party.", () -> due("queued()", alikeQueuing(7).queued(), 1));
        sentence("- `players`: 1 to 3 players: bit p stands for the player p", PromiseEdgesTest::queuePlayers);
        sentence("Returns the number of the party.", PromiseEdgesTest::queueNumber);
        sentence("Throws `IllegalArgumentException` if players has no bit, more than 3, or one that stands for no player",
                PromiseEdgesTest::queueRange);
        sentence("Throws `IllegalStateException` if one of them is not idle, or barred, or 100 parties have queued",
                PromiseEdgesTest::queueState);
        under("Promise 4: leave");
        sentence("Lets a party leave the queue.", PromiseEdgesTest::leaveQueue);
        sentence("Returns how many minutes it has queued.", PromiseEdgesTest::leaveMinutes);
        sentence("Throws `IndexOutOfBoundsException` if there is no such party", () -> noParty("leave", 2));
        sentence("Throws `IllegalStateException` if it does not queue", PromiseEdgesTest::leaveState);
        under("Promise 5: players");
        sentence("Returns the number of players.", PromiseEdgesTest::numberOfPlayers);
        under("Promise 6: state");
        sentence("Returns the state of a player.", PromiseEdgesTest::stateOfPlayer);
        sentence("Throws `IndexOutOfBoundsException` if there is no such player", () -> noPlayer("state", 4));
        under("Promise 7: rating");
        sentence("Returns the rating of a player.", PromiseEdgesTest::ratingOfPlayer);
        sentence("Throws `IndexOutOfBoundsException` if there is no such player", () -> noPlayer("rating", 5));
        under("Promise 8: uncertainty");
        sentence("Returns the uncertainty of a player.", PromiseEdgesTest::uncertaintyOfPlayer);
        sentence("Throws `IndexOutOfBoundsException` if there is no such player", () -> noPlayer("uncertainty", 6));
        under("Promise 9: level");
        sentence("Returns the penalty level of a player.", PromiseEdgesTest::levelOfPlayer);
        sentence("Throws `IndexOutOfBoundsException` if there is no such player", () -> noPlayer("level", 7));
        under("Promise 10: barred");
        sentence("Returns for how many minutes a player is still barred; 0 if the player is not.",
                PromiseEdgesTest::minutesBarred);
        sentence("Throws `IndexOutOfBoundsException` if there is no such player", () -> noPlayer("barred", 8));
        under("Promise 11: queued");
        sentence("Returns the number of parties in the queue.", PromiseEdgesTest::partiesInTheQueue);
        under("Promise 12: window");
        sentence("Returns the window of a party.", PromiseEdgesTest::windowOfParty);
        sentence("Throws `IndexOutOfBoundsException` if there is no such party", () -> noParty("window", 10));
        sentence("Throws `IllegalStateException` if it does not queue", PromiseEdgesTest::windowState);
        under("Promise 13: fit");
        sentence("Tells whether two parties fit.", PromiseEdgesTest::fitOfParties);
        sentence("Throws `IndexOutOfBoundsException` if there is no such party", PromiseEdgesTest::fitIndex);
        sentence("Throws `IllegalStateException` if one of them does not queue", PromiseEdgesTest::fitState);
    }

    private static void matches() {
        under("Promise 14: make");
        sentence("Makes a match. Returns its number; NONE if no set is possible. Matches are numbered from 0.",
                PromiseEdgesTest::makeNumber);
        under("Promise 15: accept");
        sentence("Lets a player accept a match.", () -> due("matchState(0)", on().matchState(0), LobbyMaker.ON));
        sentence("Returns whether it goes on then.", PromiseEdgesTest::acceptAnswer);
        sentence("Throws `IndexOutOfBoundsException` if there is no such match or player",
                () -> noMatchOrPlayer("accept", 13));
        sentence("Throws `IllegalStateException` if it does not wait, or the player is not in it, or has accepted it",
                () -> doesNotWait("accept", 13));
        under("Promise 16: decline");
        sentence("Lets a player decline a match.", () -> due("matchState(0)", off().matchState(0), LobbyMaker.OFF));
        sentence("Returns for how many minutes the player is barred.", PromiseEdgesTest::declineAnswer);
        sentence("Throws `IndexOutOfBoundsException` if there is no such match or player",
                () -> noMatchOrPlayer("decline", 14));
        sentence("Throws `IllegalStateException` if it does not wait, or the player is not in it, or has accepted it",
                () -> doesNotWait("decline", 14));
        under("Promise 17: finish");
        sentence("Finishes a match.", () -> due("matchState(0)", finished().matchState(0), LobbyMaker.FINISHED));
        sentence("- `winner`: 0 or 1: the team that has won", PromiseEdgesTest::finishWinner);
        sentence("Throws `IndexOutOfBoundsException` if there is no such match", () -> {
            noMatch("finish", 15, 0);
            noMatch("finish, the winner out of range,", 15, 2);
        });
        sentence("Throws `IllegalArgumentException` if winner is out of range", PromiseEdgesTest::finishRange);
        sentence("Throws `IllegalStateException` if it does not go on", PromiseEdgesTest::finishState);
        under("Promise 18: matches");
        sentence("Returns the number of matches that have been made.", PromiseEdgesTest::matchesMade);
        under("Promise 19: matchState");
        sentence("Returns the state of a match.", PromiseEdgesTest::stateOfMatch);
        sentence("Throws `IndexOutOfBoundsException` if there is no such match", () -> noMatch("matchState", 17, 0));
        under("Promise 20: team");
        sentence("Returns the players of a team as they were when the match was made: bit p stands for the player p.",
                PromiseEdgesTest::playersOfTeam);
        sentence("- `team`: 0 or 1", PromiseEdgesTest::teamNumbers);
        sentence("Throws `IndexOutOfBoundsException` if there is no such match", () -> {
            noMatch("team", 18, 0);
            noMatch("team, itself out of range,", 18, 2);
        });
        sentence("Throws `IllegalArgumentException` if team is out of range", PromiseEdgesTest::teamRange);
        under("Promise 21: unevenness");
        sentence("Returns the difference of the sums of the ratings of both teams when the match was made, without its sign.",
                PromiseEdgesTest::unevennessOfMatch);
        sentence("Throws `IndexOutOfBoundsException` if there is no such match", () -> noMatch("unevenness", 19, 0));
        under("Promise 22: pass");
        sentence("Lets minutes pass.", PromiseEdgesTest::passTime);
        sentence("- `minutes`: 1 to 1000", PromiseEdgesTest::passMinutes);
        sentence("Returns how many matches are off by that.", PromiseEdgesTest::passAnswer);
        sentence("Throws `IllegalArgumentException` if minutes is out of range", PromiseEdgesTest::passRange);
        sentence("Throws `IllegalStateException` if the clock would be above 100000", PromiseEdgesTest::passState);
        under("Promise 23: clock");
        sentence("Returns the clock.", PromiseEdgesTest::clock);
    }

    public static void main(String[] args) {
        playersAndParties();
        matches();
        allSentencesTested();
        end("all lines of the promises hold", "answers are not as due");
    }
}
