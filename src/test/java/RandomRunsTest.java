import java.util.ArrayList;
import java.util.List;
import java.util.Random;

/** Random runs of 512 calls, each answer against a slow model that follows the document word by word. */
public final class RandomRunsTest extends LobbyTest {
    private static final int RUNS = 3000;
    private static final int CALLS = 512;

    /** What the document says of a call that throws, for the model. */
    private static final class Refusal extends RuntimeException {
        private static final long serialVersionUID = 1;

        Refusal(String kind) {
            super(kind);
        }
    }

    private static final class Model {
        static final String INDEX = "IndexOutOfBoundsException";
        static final String RANGE = "IllegalArgumentException";
        static final String STATE = "IllegalStateException";

        final List<int[]> players = new ArrayList<>(); // rating, roles, uncertainty, level, barred until, state
        final List<int[]> parties = new ArrayList<>(); // players, since, queues (1 or 0)
        final List<int[]> matches = new ArrayList<>(); // team 0, team 1, unevenness, made at, accepted, state, parties...
        int clock;

        static void when(boolean wrong, String kind) {
            if (wrong) {
                throw new Refusal(kind);
            }
        }

        void noIndex(int index, List<int[]> list) {
            when(index < 0 || index >= list.size(), INDEX);
        }

        List<int[]> of(int bits) {
            List<int[]> found = new ArrayList<>();
            for (int p = 0; p < players.size(); p++) {
                if ((bits & 1 << p) != 0) {
                    found.add(players.get(p));
                }
            }
            return found;
        }

        int sum(int bits) {
            return of(bits).stream().mapToInt(p -> p[0]).sum();
        }

        int partyRating(int[] party) {
            return Math.floorDiv(sum(party[0]), Integer.bitCount(party[0]));
        }

        int windowOf(int[] party) {
            return 100 + 20 * (clock - party[1]);
        }

        boolean fitting(int[] a, int[] b) {
            int difference = Math.abs(partyRating(a) - partyRating(b));
            return difference <= windowOf(a) && difference <= windowOf(b);
        }

        boolean possibleTeam(int bits) {
            if (Integer.bitCount(bits) != 3) {
                return false;
            }
            List<int[]> team = of(bits);
            int[][] orders = {{0, 1, 2}, {0, 2, 1}, {1, 0, 2}, {1, 2, 0}, {2, 0, 1}, {2, 1, 0}};
            for (int[] roles : orders) {
                boolean all = true;
                for (int i = 0; i < 3; i++) {
                    all &= (team.get(i)[1] & 1 << roles[i]) != 0;
                }
                if (all) {
                    return true;
                }
            }
            return false;
        }

        int bits(List<Integer> set) {
            return set.stream().mapToInt(party -> parties.get(party)[0]).sum();
        }

        /** All subsets of the list, in no order that matters. */
        static List<List<Integer>> subsets(List<Integer> list) {
            List<List<Integer>> all = new ArrayList<>();
            for (int mask = 0; mask < 1 << list.size(); mask++) {
                List<Integer> set = new ArrayList<>();
                for (int i = 0; i < list.size(); i++) {
                    if ((mask & 1 << i) != 0) {
                        set.add(list.get(i));
                    }
                }
                all.add(set);
            }
            return all;
        }

        /** The sets of queuing parties with six players together. */
        void sixes(List<Integer> queue, int from, List<Integer> set, int size, List<List<Integer>> found) {
            if (size == 6) {
                found.add(new ArrayList<>(set));
            }
            for (int i = from; i < queue.size() && size < 6; i++) {
                int more = size + Integer.bitCount(parties.get(queue.get(i))[0]);
                if (more <= 6) {
                    set.add(queue.get(i));
                    sixes(queue, i + 1, set, more, found);
                    set.remove(set.size() - 1);
                }
            }
        }

        /** Has the party with the lowest number that is not in both. */
        static boolean before(List<Integer> a, List<Integer> b) {
            for (int party = 0; party < 100; party++) {
                if (a.contains(party) != b.contains(party)) {
                    return a.contains(party);
                }
            }
            return false;
        }

        /** The first team of the split that is taken, or null. */
        List<Integer> splitOf(List<Integer> set) {
            List<Integer> best = null;
            int least = 0;
            int all = bits(set);
            for (List<Integer> zero : subsets(set)) {
                int team = bits(zero);
                if (zero.contains(set.get(0)) && possibleTeam(team) && possibleTeam(all - team)) {
                    int difference = Math.abs(sum(team) - sum(all - team));
                    if (best == null || difference < least || difference == least && before(zero, best)) {
                        best = zero;
                        least = difference;
                    }
                }
            }
            return best;
        }

        int make() {
            List<Integer> queue = new ArrayList<>();
            for (int party = 0; party < parties.size(); party++) {
                if (parties.get(party)[2] == 1) {
                    queue.add(party);
                }
            }
            List<List<Integer>> sets = new ArrayList<>();
            sixes(queue, 0, new ArrayList<>(), 0, sets);
            List<Integer> taken = null;
            for (List<Integer> set : sets) {
                boolean sooner = taken == null || set.get(0) < taken.get(0)
                        || set.get(0).equals(taken.get(0)) && before(set, taken);
                int[] first = parties.get(set.get(0));
                if (sooner && set.stream().allMatch(p -> fitting(parties.get(p), first)) && splitOf(set) != null) {
                    taken = set;
                }
            }
            if (taken == null) {
                return -1;
            }
            int zero = bits(splitOf(taken));
            int one = bits(taken) - zero;
            int[] match = new int[6 + taken.size()];
            int[] start = {zero, one, Math.abs(sum(zero) - sum(one)), clock, 0, 0};
            System.arraycopy(start, 0, match, 0, 6);
            for (int i = 0; i < taken.size(); i++) {
                match[6 + i] = taken.get(i);
                parties.get(taken.get(i))[2] = 0;
            }
            of(zero | one).forEach(p -> p[5] = 2);
            matches.add(match);
            return matches.size() - 1;
        }

        void off(int[] match) {
            match[5] = 2;
            for (int i = 6; i < match.length; i++) {
                parties.get(match[i])[2] = 1;
                of(parties.get(match[i])[0]).forEach(p -> p[5] = 1);
            }
        }

        int declined(int[] match, int player) {
            for (int i = 6; i < match.length; i++) {
                int[] party = parties.get(match[i]);
                if ((party[0] & 1 << player) != 0) {
                    party[2] = 0;
                    of(party[0]).forEach(p -> p[5] = 0);
                }
            }
            int[] p = players.get(player);
            p[3] = p[3] == 5 ? 5 : p[3] + 1;
            int minutes = 5;
            for (int level = 1; level < p[3]; level++) {
                minutes *= 2;
            }
            p[4] = clock + minutes;
            return minutes;
        }

        int minute() {
            clock++;
            int off = 0;
            for (int[] match : matches) {
                if (match[5] == 0 && clock - match[3] == 3) {
                    off++;
                    off(match);
                    for (int p = 0; p < players.size(); p++) {
                        if (((match[0] | match[1]) & ~match[4] & 1 << p) != 0) {
                            declined(match, p);
                        }
                    }
                }
            }
            return off;
        }

        void finish(int[] match, int winner) {
            int[] expected = new int[2];
            expected[0] = 500 + Math.floorDiv(sum(match[0]), 3) - Math.floorDiv(sum(match[1]), 3);
            expected[0] = expected[0] < 50 ? 50 : expected[0] > 950 ? 950 : expected[0];
            expected[1] = 1000 - expected[0];
            for (int team = 0; team < 2; team++) {
                int share = winner == team ? 1000 : 0;
                for (int[] p : of(match[team])) {
                    int rating = p[0] + Math.floorDiv(p[2] * (share - expected[team]), 8000);
                    p[0] = rating < 0 ? 0 : rating > 4000 ? 4000 : rating;
                    p[2] = Math.max(50, Math.floorDiv(9 * p[2], 10));
                    p[3] = p[3] == 0 ? 0 : p[3] - 1;
                    p[5] = 0;
                }
            }
            match[5] = 3;
        }

        int queue(int bits) {
            int size = Integer.bitCount(bits);
            when(size < 1 || size > 3 || Integer.bitCount(bits & (1 << players.size()) - 1) != size, RANGE);
            when(of(bits).stream().anyMatch(p -> p[5] != 0 || p[4] > clock) || parties.size() == 100, STATE);
            of(bits).forEach(p -> p[5] = 1);
            parties.add(new int[] {bits, clock, 1});
            return parties.size() - 1;
        }

        int[] queues(int party) {
            noIndex(party, parties);
            when(parties.get(party)[2] == 0, STATE);
            return parties.get(party);
        }

        int[] waits(int match, int player) {
            noIndex(match, matches);
            noIndex(player, players);
            int[] m = matches.get(match);
            when(m[5] != 0 || ((m[0] | m[1]) & ~m[4] & 1 << player) == 0, STATE);
            return m;
        }

        int askPlayer(int player, int field) {
            noIndex(player, players);
            return players.get(player)[field];
        }

        int askMatch(int match, int field) {
            noIndex(match, matches);
            return matches.get(match)[field];
        }

        int addPlayer(int rating, int roles) {
            when(rating < 0 || rating > 4000 || roles < 1 || roles > 7, RANGE);
            when(players.size() == 18, STATE);
            players.add(new int[] {rating, roles, 350, 0, 0, 0});
            return players.size() - 1;
        }

        int pass(int minutes) {
            when(minutes < 1 || minutes > 1000, RANGE);
            when(clock + minutes > 100000, STATE);
            int off = 0;
            for (int i = 0; i < minutes; i++) {
                off += minute();
            }
            return off;
        }

        int leave(int party) {
            int[] p = queues(party);
            p[2] = 0;
            of(p[0]).forEach(player -> player[5] = 0);
            return clock - p[1];
        }

        int accept(int match, int player) {
            int[] m = waits(match, player);
            m[4] |= 1 << player;
            m[5] = m[4] == (m[0] | m[1]) ? 1 : 0;
            return m[5];
        }

        int decline(int match, int player) {
            int[] m = waits(match, player);
            off(m);
            return declined(m, player);
        }

        int finish(int match, int winner) {
            noIndex(match, matches);
            when(winner != 0 && winner != 1, RANGE);
            when(matches.get(match)[5] != 1, STATE);
            finish(matches.get(match), winner);
            return 0;
        }

        int fit(int party, int other) {
            noIndex(party, parties);
            noIndex(other, parties);
            return fitting(queues(party), queues(other)) ? 1 : 0;
        }

        int team(int match, int team) {
            noIndex(match, matches);
            when(team != 0 && team != 1, RANGE);
            return matches.get(match)[team];
        }

        int answer(int operation, int a, int b) {
            switch (operation) {
                case 0: return addPlayer(a, b);
                case 1: return queue(a);
                case 2: return leave(a);
                case 3: return players.size();
                case 4: return askPlayer(a, 5);
                case 5: return askPlayer(a, 0);
                case 6: return askPlayer(a, 2);
                case 7: return askPlayer(a, 3);
                case 8: return Math.max(0, askPlayer(a, 4) - clock);
                case 9: return (int) parties.stream().filter(p -> p[2] == 1).count();
                case 10: return windowOf(queues(a));
                case 11: return fit(a, b);
                case 12: return make();
                case 13: return accept(a, b);
                case 14: return decline(a, b);
                case 15: return finish(a, b);
                case 16: return matches.size();
                case 17: return askMatch(a, 5);
                case 18: return team(a, b);
                case 19: return askMatch(a, 2);
                case 20: return pass(a);
                default: return clock;
            }
        }
    }

    private static String told(Model model, int operation, int a, int b) {
        try {
            return "" + model.answer(operation, a, b);
        } catch (Refusal e) {
            return e.getMessage();
        }
    }

    private static String told(LobbyMaker x, int operation, int a, int b) {
        try {
            return "" + answer(x, operation, a, b);
        } catch (RuntimeException e) {
            return thrownByItself(e) ? e.getClass().getSimpleName() : "not by a throw statement of its own: " + e;
        }
    }

    /** The tastes of a run: how far ratings lie apart, which roles there are, how parties are made, what is called. */
    private static final class Taste {
        final Random random;
        final int players, spread, base, fullRoles, single, odd, late;
        final int[] weights = new int[OPERATIONS];

        Taste(long seed) {
            random = new Random(seed);
            players = 6 + random.nextInt(13);
            spread = new int[] {1, 40, 150, 400, 1500, 4001}[random.nextInt(6)];
            base = random.nextInt(4002 - spread);
            fullRoles = random.nextInt(101);
            single = random.nextInt(101);
            odd = new int[] {0, 2, 10}[random.nextInt(3)];
            late = random.nextInt(4) == 0 ? 1000 : random.nextInt(2) == 0 ? 20 : 3;
            int[] usual = {1, 20, 2, 1, 2, 2, 2, 2, 2, 2, 4, 4, 8, 40, 1 + random.nextInt(6), 8, 1, 3, 4, 3, 6, 1};
            for (int i = 0; i < OPERATIONS; i++) {
                weights[i] = usual[i] * (1 + random.nextInt(4));
            }
            weights[13] *= random.nextInt(2) == 0 ? 1 : 6;
            weights[20] *= late == 1000 && random.nextInt(8) == 0 ? 100 : 1;
        }

        int operation() {
            int sum = 0;
            for (int w : weights) {
                sum += w;
            }
            int left = random.nextInt(sum);
            int operation = 0;
            while (left >= weights[operation]) {
                left -= weights[operation++];
            }
            return operation;
        }

        int rating() {
            return base + random.nextInt(spread);
        }

        int roles() {
            return random.nextInt(100) < fullRoles ? 7 : 1 + random.nextInt(7);
        }

        int strange() {
            int[] all = {-1, 0, 1, 2, 7, 8, 18, 19, 31, 32, 33, 99, 100, 101, 1000, 1001, 4000, 4001, 1 << 18, 1 << 30,
                Integer.MIN_VALUE, Integer.MAX_VALUE, random.nextInt()};
            return all[random.nextInt(all.length)];
        }

        /** Mostly players who may queue. */
        int party(Model model) {
            int size = random.nextInt(100) < single ? 1 : 1 + random.nextInt(3);
            int bits = 0;
            for (int tries = 0; tries < 30 && Integer.bitCount(bits) < size; tries++) {
                int p = random.nextInt(Math.max(1, model.players.size()));
                boolean free = p < model.players.size() && model.players.get(p)[5] == 0
                        && model.players.get(p)[4] <= model.clock;
                if (free || random.nextInt(60) == 0) {
                    bits |= 1 << p;
                }
            }
            return bits;
        }

        int number(List<int[]> list) {
            return random.nextInt(list.size() + 1) - random.nextInt(2);
        }

        int recent(List<int[]> list) {
            return random.nextInt(3) == 0 ? number(list) : list.size() - 1 - random.nextInt(3);
        }

        /** Mostly one whom the match awaits. */
        int awaited(Model model, int match) {
            if (match >= 0 && match < model.matches.size() && random.nextInt(20) != 0) {
                int[] m = model.matches.get(match);
                int awaited = (m[0] | m[1]) & ~m[4];
                for (int tries = 0; tries < 40; tries++) {
                    int p = random.nextInt(18);
                    if ((awaited & 1 << p) != 0) {
                        return p;
                    }
                }
            }
            return number(model.players);
        }

        int first(int operation, Model model) {
            if (random.nextInt(100) < odd) {
                return strange();
            }
            switch (operation) {
                case 0: return rating();
                case 1: return party(model);
                case 2: case 10: case 11: return recent(model.parties);
                case 13: case 14: case 15: case 17: case 18: case 19: return recent(model.matches);
                case 20: return 1 + random.nextInt(late);
                default: return number(model.players);
            }
        }

        int second(int operation, int a, Model model) {
            if (random.nextInt(100) < odd) {
                return strange();
            }
            switch (operation) {
                case 0: return roles();
                case 11: return recent(model.parties);
                case 13: case 14: return awaited(model, a);
                case 15: case 18: return random.nextInt(2);
                default: return 0;
            }
        }
    }

    private static final int[] REACHED = new int[8];

    private static void run(long seed) {
        Taste taste = new Taste(seed);
        LobbyMaker x = new LobbyMaker();
        Model model = new Model();
        for (int call = 0; call < CALLS; call++) {
            int operation = call < taste.players ? 0 : taste.operation();
            int a = taste.first(operation, model);
            int b = taste.second(operation, a, model);
            String want = told(model, operation, a, b);
            String got = told(x, operation, a, b);
            if (!got.equals(want)) {
                fail("run " + seed + ", call " + call + ": operation " + operation + " of " + a + ", " + b
                        + " answered " + got + ", due is " + want);
                return;
            }
        }
        count(model);
    }

    private static void count(Model model) {
        REACHED[0] += model.matches.size();
        REACHED[1] += model.matches.stream().filter(m -> m[5] == 1).count();
        REACHED[2] += model.matches.stream().filter(m -> m[5] == 2).count();
        REACHED[3] += model.matches.stream().filter(m -> m[5] == 3).count();
        REACHED[4] += model.parties.size() == 100 ? 1 : 0;
        REACHED[5] += model.clock > 99000 ? 1 : 0;
        REACHED[6] += model.players.stream().filter(p -> p[3] == 5).count();
        REACHED[7] += model.players.stream().filter(p -> p[0] == 0 || p[0] == 4000).count();
    }

    public static void main(String[] args) {
        for (int seed = 1; seed <= RUNS; seed++) {
            run(seed);
        }
        System.out.println(RUNS + " runs; matches made, on, off, finished; runs with 100 parties, "
                + "at the end of the clock; players at the level 5, at a bound of the ratings: "
                + java.util.Arrays.toString(REACHED));
        end("all runs are as due", "runs are not as due");
    }
}
