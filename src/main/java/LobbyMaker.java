import java.util.ArrayList;

/** A matchmaker for games of two teams of three; time is counted in minutes from 0. */
public final class LobbyMaker {
    public static final int NONE = -1;
    public static final int IDLE = 0, QUEUING = 1, IN_MATCH = 2;
    public static final int MADE = 0, ON = 1, OFF = 2, FINISHED = 3;

    private static final int MAX_PLAYERS = 18;
    private static final int MAX_PARTIES = 100;
    private static final int MAX_RATING = 4000;
    private static final int MAX_MINUTES = 1000;
    private static final int MAX_CLOCK = 100000;
    private static final int ALL_ROLES = 7;

    private static final int MAX_PARTY_SIZE = 3;
    private static final int TEAM_SIZE = 3;
    private static final int MATCH_SIZE = 6;

    private static final int FIRST_WINDOW = 100;
    private static final int WINDOW_A_MINUTE = 20;

    private static final int MINUTES_TO_ACCEPT = 3;
    private static final int MAX_LEVEL = 5;
    private static final int FIRST_PENALTY = 5;

    private static final int FIRST_UNCERTAINTY = 350;
    private static final int LEAST_UNCERTAINTY = 50;
    private static final int WHOLE_SHARE = 1000;
    private static final int LEAST_SHARE = 50;
    private static final int SHARE_DIVISOR = 8000;

    private final ArrayList<Player> playerList;
    private final ArrayList<Party> partyList;
    // It needs no limit of its own: each match ends with a party, or more, that never queues again.
    private final ArrayList<Match> matchList;
    private final Draft draft;
    private int now;

    public LobbyMaker() {
        playerList = new ArrayList<>();
        partyList = new ArrayList<>();
        matchList = new ArrayList<>();
        draft = new Draft();
        now = 0;
    }

    // ---- players and parties

    public int addPlayer(int rating, int roles) throws IllegalArgumentException, IllegalStateException {
        if (rating < 0 || rating > MAX_RATING || roles < 1 || roles > ALL_ROLES) {
            throw new IllegalArgumentException("rating or roles out of range");
        }
        if (playerList.size() >= MAX_PLAYERS) {
            throw new IllegalStateException("no more players");
        }
        playerList.add(new Player(rating, roles));
        return playerList.size() - 1;
    }

    public int queue(int players) throws IllegalArgumentException, IllegalStateException {
        if (players == 0 || Integer.bitCount(players) > MAX_PARTY_SIZE || players >> playerList.size() != 0) {
            throw new IllegalArgumentException("no party of one to three players");
        }
        if (partyList.size() >= MAX_PARTIES || !allMayQueue(players)) {
            throw new IllegalStateException("these players may not queue");
        }
        Party party = new Party(players, now);
        for (int i = 0; i < playerList.size(); i++) {
            if (has(players, i)) {
                party.join(playerList.get(i));
            }
        }
        partyList.add(party);
        return partyList.size() - 1;
    }

    public int leave(int party) throws IndexOutOfBoundsException, IllegalStateException {
        Party leaving = queuingParty(party);
        leaving.standing = IDLE;
        return now - leaving.since;
    }

    public int players() {
        return playerList.size();
    }

    public int state(int player) throws IndexOutOfBoundsException {
        return existingPlayer(player).standing();
    }

    public int rating(int player) throws IndexOutOfBoundsException {
        return existingPlayer(player).points;
    }

    public int uncertainty(int player) throws IndexOutOfBoundsException {
        return existingPlayer(player).doubt;
    }

    public int level(int player) throws IndexOutOfBoundsException {
        return existingPlayer(player).penaltyLevel;
    }

    public int barred(int player) throws IndexOutOfBoundsException {
        return Math.max(0, existingPlayer(player).barredUntil - now);
    }

    public int queued() {
        int count = 0;
        for (int i = 0; i < partyList.size(); i++) {
            if (partyList.get(i).standing == QUEUING) {
                count++;
            }
        }
        return count;
    }

    public int window(int party) throws IndexOutOfBoundsException, IllegalStateException {
        return queuingParty(party).windowAt(now);
    }

    public boolean fit(int party, int other) throws IndexOutOfBoundsException, IllegalStateException {
        // That there is no such other party goes before that the party does not queue.
        existingParty(other);
        Party one = queuingParty(party);
        return one.fitsAt(now, queuingParty(other));
    }

    // ---- matches

    public int make() {
        for (int i = 0; i < partyList.size(); i++) {
            if (partyList.get(i).standing == QUEUING) {
                gatherCandidates(partyList.get(i), i);
                if (draft.findSet()) {
                    matchList.add(draft.newMatch(now));
                    return matchList.size() - 1;
                }
            }
        }
        return NONE;
    }

    public boolean accept(int match, int player) throws IndexOutOfBoundsException, IllegalStateException {
        Match accepted = matchThatAwaits(match, player);
        accepted.takeAnswer(player);
        return accepted.stage == ON;
    }

    public int decline(int match, int player) throws IndexOutOfBoundsException, IllegalStateException {
        Match declined = matchThatAwaits(match, player);
        Player decliner = existingPlayer(player);
        declined.callOff();
        return decliner.penaliseAt(now);
    }

    public void finish(int match, int winner)
            throws IndexOutOfBoundsException, IllegalArgumentException, IllegalStateException {
        Match finished = existingMatch(match);
        checkTeam(winner);
        if (finished.stage != ON) {
            throw new IllegalStateException("the match does not go on");
        }
        int expected = expectedShare(finished.teamZero, finished.teamOne);
        int gain = (winner == 0 ? WHOLE_SHARE : 0) - expected;
        // Both shares and both expected shares add up to the whole one, so what one team gains the other one loses.
        learn(finished.teamZero, gain);
        learn(finished.teamOne, -gain);
        finished.end();
    }

    public int matches() {
        return matchList.size();
    }

    public int matchState(int match) throws IndexOutOfBoundsException {
        return existingMatch(match).stage;
    }

    public int team(int match, int team) throws IndexOutOfBoundsException, IllegalArgumentException {
        Match asked = existingMatch(match);
        checkTeam(team);
        return team == 0 ? asked.teamZero : asked.teamOne;
    }

    public int unevenness(int match) throws IndexOutOfBoundsException {
        return existingMatch(match).gap;
    }

    public int pass(int minutes) throws IllegalArgumentException, IllegalStateException {
        if (minutes < 1 || minutes > MAX_MINUTES) {
            throw new IllegalArgumentException("minutes out of range");
        }
        if (minutes > MAX_CLOCK - now) {
            throw new IllegalStateException("the clock would be too high");
        }
        now += minutes;
        int off = 0;
        for (int i = 0; i < matchList.size(); i++) {
            Match match = matchList.get(i);
            if (match.stage == MADE && match.deadline <= now) {
                expire(match);
                off++;
            }
        }
        return off;
    }

    public int clock() {
        return now;
    }

    // ---- what there is

    private Player existingPlayer(int player) {
        if (player < 0 || player >= playerList.size()) {
            throw new IndexOutOfBoundsException("no such player");
        }
        return playerList.get(player);
    }

    private Party existingParty(int party) {
        if (party < 0 || party >= partyList.size()) {
            throw new IndexOutOfBoundsException("no such party");
        }
        return partyList.get(party);
    }

    private Party queuingParty(int party) {
        Party existing = existingParty(party);
        if (existing.standing != QUEUING) {
            throw new IllegalStateException("the party does not queue");
        }
        return existing;
    }

    private Match existingMatch(int match) {
        if (match < 0 || match >= matchList.size()) {
            throw new IndexOutOfBoundsException("no such match");
        }
        return matchList.get(match);
    }

    private Match matchThatAwaits(int match, int player) {
        Match existing = existingMatch(match);
        existingPlayer(player);
        if (!existing.awaits(player)) {
            throw new IllegalStateException("the match does not wait for this player");
        }
        return existing;
    }

    private static void checkTeam(int team) {
        if (team != 0 && team != 1) {
            throw new IllegalArgumentException("no such team");
        }
    }

    /** Sets of players are numbers: bit p stands for the player p. */
    private static boolean has(int players, int player) {
        return (players >> player & 1) != 0;
    }

    // ---- steps of the calls

    private boolean allMayQueue(int players) {
        for (int i = 0; i < playerList.size(); i++) {
            Player player = playerList.get(i);
            if (has(players, i) && (player.standing() != IDLE || player.barredUntil > now)) {
                return false;
            }
        }
        return true;
    }

    /** Hands the draft the first party and the later ones that fit it; it fits itself, so it comes first there too. */
    private void gatherCandidates(Party first, int number) {
        draft.candidates.clear();
        for (int i = Math.max(0, number); i < partyList.size(); i++) {
            Party party = partyList.get(i);
            if (party.standing == QUEUING && party.fitsAt(now, first)) {
                draft.candidates.add(party);
            }
        }
    }

    private void expire(Match match) {
        match.callOff();
        for (int i = 0; i < playerList.size(); i++) {
            if (has(match.awaited, i)) {
                // More minutes may have passed at once: the time of the penalty runs from the deadline on.
                playerList.get(i).penaliseAt(match.deadline);
            }
        }
    }

    private int expectedShare(int teamZero, int teamOne) {
        int share = WHOLE_SHARE / 2 + meanRating(teamZero) - meanRating(teamOne);
        return Math.min(WHOLE_SHARE - LEAST_SHARE, Math.max(LEAST_SHARE, share));
    }

    private int meanRating(int team) {
        int sum = 0;
        for (int i = 0; i < playerList.size(); i++) {
            if (has(team, i)) {
                sum += playerList.get(i).points;
            }
        }
        return sum / TEAM_SIZE;
    }

    private void learn(int team, int gain) {
        for (int i = 0; i < playerList.size(); i++) {
            if (has(team, i)) {
                playerList.get(i).learn(gain);
            }
        }
    }

    private static final class Player {
        final int roles;
        int points;
        int doubt;
        int penaltyLevel;
        int barredUntil;
        /** The party that the player joined last, or null. */
        Party latest;

        Player(int points, int roles) {
            this.points = points;
            this.roles = roles;
            doubt = FIRST_UNCERTAINTY;
        }

        int standing() {
            return latest == null ? IDLE : latest.standing;
        }

        /** Takes the player's party out of the queue and answers for how many minutes the player is barred. */
        int penaliseAt(int minute) {
            if (latest != null) {
                latest.standing = IDLE;
            }
            penaltyLevel = Math.min(MAX_LEVEL, penaltyLevel + 1);
            int minutes = FIRST_PENALTY << (penaltyLevel - 1);
            barredUntil = minute + minutes;
            return minutes;
        }

        /** Takes what a finished match teaches; gain is the share less the expected one. */
        void learn(int gain) {
            int grown = points + Math.floorDiv(doubt * gain, SHARE_DIVISOR);
            points = Math.min(MAX_RATING, Math.max(0, grown));
            doubt = Math.max(LEAST_UNCERTAINTY, doubt * 9 / 10);
            penaltyLevel = Math.max(0, penaltyLevel - 1);
        }
    }

    private static final class Party {
        final int players;
        final int since;
        final ArrayList<Player> members;
        /** The state of all its players: IDLE once it queues no more. */
        int standing;
        int roleCounts;

        Party(int players, int since) {
            this.players = players;
            this.since = since;
            members = new ArrayList<>();
            standing = QUEUING;
        }

        void join(Player player) {
            members.add(player);
            roleCounts += RoleCounts.of(player.roles);
            player.latest = this;
        }

        int windowAt(int minute) {
            return FIRST_WINDOW + WINDOW_A_MINUTE * (minute - since);
        }

        boolean fitsAt(int minute, Party other) {
            int difference = Math.abs(meanPoints() - other.meanPoints());
            return difference <= windowAt(minute) && difference <= other.windowAt(minute);
        }

        int points() {
            int sum = 0;
            for (int i = 0; i < members.size(); i++) {
                sum += members.get(i).points;
            }
            return sum;
        }

        private int meanPoints() {
            int size = members.size();
            return size == 0 ? 0 : points() / size;
        }
    }

    private static final class Match {
        final int teamZero;
        final int teamOne;
        final int gap;
        final int deadline;
        final ArrayList<Party> parties;
        int stage;
        /** The players who have not accepted. */
        int awaited;

        Match(int teamZero, int teamOne, int gap, int deadline) {
            this.teamZero = teamZero;
            this.teamOne = teamOne;
            this.gap = gap;
            this.deadline = deadline;
            parties = new ArrayList<>();
            stage = MADE;
            awaited = teamZero | teamOne;
        }

        void join(Party party) {
            parties.add(party);
            party.standing = IN_MATCH;
        }

        boolean awaits(int player) {
            return stage == MADE && has(awaited, player);
        }

        void takeAnswer(int player) {
            awaited &= ~(1 << player);
            if (awaited == 0) {
                stage = ON;
            }
        }

        /** All parties queue again: the penalties, which come after, take out those that don't. */
        void callOff() {
            stage = OFF;
            sendParties(QUEUING);
        }

        void end() {
            stage = FINISHED;
            sendParties(IDLE);
        }

        private void sendParties(int standing) {
            for (int i = 0; i < parties.size(); i++) {
                parties.get(i).standing = standing;
            }
        }
    }

    /**
     * Counts of players by their roles, packed into one number so that those of parties can be added: for each set of
     * one or two roles, four bits with the number of players who can take no role outside of it.
     *
     * <p>By Hall's theorem three players can take the three roles if, and only if, no set of roles has more players
     * who need it than it has roles.
     */
    private static final class RoleCounts {
        static int of(int roles) {
            int counts = 0;
            for (int set = 1; set < ALL_ROLES; set++) {
                if ((roles & ~set) == 0) {
                    counts += 1 << 4 * set;
                }
            }
            return counts;
        }

        /** Tells whether no set of roles is needed by more players than it has places in that many teams. */
        static boolean suffice(int counts, int teams) {
            for (int set = 1; set < ALL_ROLES; set++) {
                if ((counts >> 4 * set & 15) > teams * Integer.bitCount(set)) {
                    return false;
                }
            }
            return true;
        }
    }

    /** The search for the parties of a match and for their split; it is made once, and its lists are used again. */
    private static final class Draft {
        /** The parties to choose from, in the order of the queue; a set has the first of them. */
        final ArrayList<Party> candidates;
        private final ArrayList<Party> set;
        private int teamZero;
        private int teamOne;
        private int gap;

        Draft() {
            candidates = new ArrayList<>();
            set = new ArrayList<>();
        }

        /** Finds the possible set that comes first, with its most even split; answers whether there is one. */
        boolean findSet() {
            set.clear();
            return findWith(this, 0, 0, 0);
        }

        /**
         * Takes a candidate into the set and fills it with later ones, the earliest first, so that the first possible
         * set found is the one that comes first. Each level adds a player at least, so there are at most six.
         */
        private static boolean findWith(Draft draft, int index, int players, int roleCounts) {
            if (index < 0 || index >= draft.candidates.size() || players >= MATCH_SIZE) {
                return false;
            }
            Party party = draft.candidates.get(index);
            int playersThen = players + party.members.size();
            int countsThen = roleCounts + party.roleCounts;
            // What two teams have no places for can't be split: such sets are given up early, as there are many.
            if (playersThen > MATCH_SIZE || !RoleCounts.suffice(countsThen, 2)) {
                return false;
            }
            draft.set.add(party);
            if (playersThen == MATCH_SIZE ? draft.split() : findAfter(draft, index, playersThen, countsThen)) {
                return true;
            }
            draft.dropLast();
            return false;
        }

        private static boolean findAfter(Draft draft, int index, int players, int roleCounts) {
            for (int next = index + 1; next < draft.candidates.size(); next++) {
                if (findWith(draft, next, players, roleCounts)) {
                    return true;
                }
            }
            return false;
        }

        private void dropLast() {
            if (!set.isEmpty()) {
                set.remove(set.size() - 1);
            }
        }

        /** Finds the most even split of the set; answers whether there is one. */
        private boolean split() {
            gap = NONE;
            // The first party has the highest bit and the choices fall: of even splits the one due comes first.
            int first = 1 << (set.size() - 1);
            for (int choice = 2 * first - 1; choice >= first; choice--) {
                weigh(choice);
            }
            return gap != NONE;
        }

        /** Keeps a choice of parties for the team 0 if it is possible and more even than all before. */
        private void weigh(int choice) {
            int size = 0;
            int difference = 0;
            int zero = 0;
            int one = 0;
            int countsZero = 0;
            int countsOne = 0;
            for (int i = 0; i < set.size(); i++) {
                Party party = set.get(i);
                if ((choice >> (set.size() - 1 - i) & 1) != 0) {
                    size += party.members.size();
                    difference += party.points();
                    zero |= party.players;
                    countsZero += party.roleCounts;
                } else {
                    difference -= party.points();
                    one |= party.players;
                    countsOne += party.roleCounts;
                }
            }
            boolean rolesSuffice = RoleCounts.suffice(countsZero, 1) && RoleCounts.suffice(countsOne, 1);
            if (size == TEAM_SIZE && rolesSuffice && (gap == NONE || Math.abs(difference) < gap)) {
                gap = Math.abs(difference);
                teamZero = zero;
                teamOne = one;
            }
        }

        Match newMatch(int minute) {
            Match match = new Match(teamZero, teamOne, gap, minute + MINUTES_TO_ACCEPT);
            for (int i = 0; i < set.size(); i++) {
                match.join(set.get(i));
            }
            return match;
        }
    }
}
