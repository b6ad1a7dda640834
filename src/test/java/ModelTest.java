import java.util.ArrayList;
import java.util.HashMap;
import java.util.HashSet;
import java.util.List;
import java.util.Map;
import java.util.Random;
import java.util.Set;

/**
 * Runs of calls from fixed seeds, each answer compared with that of Model: a second telling of the document that
 * keeps what happened and works everything out anew from that, by trying all ways.
 */
public final class ModelTest {
    private static final int NONE = -1;
    private static final int CALLS = 512;
    private static final int RUNS_OF_A_KIND = 120;
    private static final int[] WILD = {Integer.MIN_VALUE, -1000, -1, 0, 1, 1000, 1000000, Integer.MAX_VALUE};

    // How often each call comes, by its place in 'answer': one row for each kind of run.
    private static final int[][] KINDS = {
        {2, 6, 4, 6, 8, 2, 2, 3, 2, 4, 3, 3, 3, 6, 10, 4, 1, 3, 3, 2, 2, 2, 6, 6, 4, 4, 4},
        {1, 8, 4, 4, 12, 2, 1, 2, 1, 3, 6, 2, 2, 12, 25, 6, 0, 0, 0, 0, 0, 0, 8, 6, 4, 4, 4},
        {1, 2, 3, 8, 1, 0, 3, 4, 3, 4, 0, 0, 2, 0, 0, 4, 2, 14, 10, 0, 0, 0, 0, 1, 0, 0, 1},
        {0, 0, 0, 0, 0, 0, 0, 0, 0, 0, 0, 0, 0, 0, 0, 0, 0, 0, 0, 10, 20, 20, 0, 0, 0, 0, 1},
        {1, 4, 2, 10, 2, 1, 12, 16, 10, 14, 1, 2, 6, 1, 2, 6, 0, 0, 0, 0, 0, 0, 1, 3, 2, 1, 3},
        {2, 8, 2, 2, 2, 2, 1, 1, 1, 4, 0, 0, 2, 0, 2, 12, 0, 0, 0, 0, 0, 0, 8, 8, 4, 0, 6},
    };

    private static Random random;
    private static int kind;
    private static int wrong = 0;

    public static void main(String[] args) {
        int[] answers = new int[KINDS[0].length];
        int[] refused = new int[KINDS[0].length];
        for (kind = 0; kind < KINDS.length; kind++) {
            for (int run = 0; run < RUNS_OF_A_KIND && wrong < 20; run++) {
                random = new Random(kind * 1000003L + run);
                play(run, answers, refused);
            }
        }
        for (int i = 0; i < answers.length; i++) {
            if (answers[i] == 0 || refused[i] == 0 && i != 26) {
                wrong++;
                System.out.println("call kind " + i + " was never answered or never refused");
            }
        }
        System.out.println(wrong == 0 ? "the class and the model agree" : wrong + " answers are not as due");
        if (wrong != 0) {
            System.exit(1);
        }
    }

    private static void play(int run, int[] answers, int[] refused) {
        SoupTickets x = new SoupTickets();
        Model m = new Model();
        int wards = 1 + random.nextInt(6);
        for (int call = 0; call < CALLS; call++) {
            int which = choose();
            int a = argument(which, 0, m, wards);
            int b = argument(which, 1, m, wards);
            int c = argument(which, 2, m, wards);
            int want = model(m, which, a, b, c);
            int got;
            try {
                got = answer(x, which, a, b, c);
            } catch (Throwable thrown) {
                wrong++;
                System.out.println("kind " + kind + " run " + run + " call " + call + ": " + thrown);
                return;
            }
            if (want >= 0) {
                answers[which]++;
            }
            if (want == NONE || want == 0) {
                refused[which]++;
            }
            if (got != want) {
                wrong++;
                System.out.println("kind " + kind + " run " + run + " call " + call + ": call kind " + which
                    + " (" + a + ", " + b + ", " + c + ") answered " + got + ", due is " + want);
                return;
            }
        }
    }

    private static int choose() {
        int[] often = KINDS[kind];
        int all = 0;
        for (int n : often) {
            all += n;
        }
        int left = random.nextInt(all);
        for (int i = 0; i < often.length; i++) {
            left -= often[i];
            if (left < 0) {
                return i;
            }
        }
        return 0;
    }

    private static int upTo(int bound) {
        return random.nextInt(bound + 1);
    }

    private static int argument(int which, int place, Model m, int wards) {
        if (random.nextInt(60) == 0) {
            return WILD[random.nextInt(WILD.length)];
        }
        int someCard = random.nextBoolean() ? upTo(m.cards.size()) : upTo(Math.min(12, m.cards.size()));
        int someWard = random.nextInt(20) == 0 ? upTo(6) : random.nextInt(wards);
        int someHouse = upTo(m.houses.size());
        int someGiver = upTo(m.coins.size());
        switch (which) {
            case 1: return place == 0 ? someGiver : someCoins();
            case 2: return place == 0 ? someWard : place == 1 ? somePlace() : 8 + upTo(random.nextInt(4) == 0 ? 93 : 30);
            case 3: return place == 0 ? someHouse : upTo(10);
            case 4: return place == 0 ? someCard : someHouse;
            case 5: return someCard;
            case 6: return place == 0 ? m.now + random.nextInt(6) - 1 : someRule();
            case 7: return place == 0 ? someGiver : random.nextInt(2);
            case 9: return someHouse;
            case 10: return place == 0 ? someWard : upTo(random.nextInt(3) == 0 ? 100001 : 9000);
            case 11: return upTo(10);
            case 12: return someWard;
            case 13: return place == 0 ? someWard : upTo(random.nextInt(5) == 0 ? 2001 : 25);
            case 14: return someCard;
            case 15: return upTo(random.nextInt(12) == 0 ? 61 : kind == 2 ? 4 : 2);
            case 16: return place == 0 ? someWard : place == 1 ? somePlace() : upTo(random.nextInt(3) == 0 ? 9 : 3);
            case 17: return someHouse;
            case 18: return someWard;
            case 19: return place == 0 ? upTo(6) : someMarks();
            case 20: case 21: return upTo(m.entries.size());
            case 22: return place == 0 ? someCard : upTo(6);
            case 23: return place == 0 ? someHouse : upTo(6);
            case 24: return place == 0 ? someGiver : upTo(4);
            case 25: return place == 0 ? someWard : upTo(4);
            case 26: return upTo(10);
            default: return 0;
        }
    }

    private static int someCoins() {
        if (kind == 5) {
            return upTo(300);
        }
        return random.nextInt(8) == 0 ? upTo(1001) : upTo(24);
    }

    // Round places make like sums, so that the first of like ones is asked for.
    private static int somePlace() {
        return random.nextInt(3) == 0 ? upTo(100) : 10 * upTo(9);
    }

    private static int someRule() {
        int holds = random.nextInt(12) == 0 ? upTo(150) : 1 + upTo(11);
        int grown = upTo(random.nextInt(30) == 0 ? 10 : 3);
        return grown * 100000 + upTo(3) * 10000 + upTo(9) * 1000 + holds;
    }

    private static int someMarks() {
        int marks = 0;
        for (int i = 0; i < 5; i++) {
            int mark = random.nextInt(5) < 2 ? 9 : random.nextInt(6) == 0 ? 1 : 0;
            marks = marks * 10 + mark;
        }
        return marks;
    }

    private static int asInt(boolean yes) {
        return yes ? 1 : 0;
    }

    private static int answer(SoupTickets x, int which, int a, int b, int c) {
        switch (which) {
            case 0: return x.subscriber();
            case 1: return x.give(a, b);
            case 2: return x.house(a, b, c);
            case 3: return asInt(x.look(a, b));
            case 4: return asInt(x.hand(a, b));
            case 5: return asInt(x.lose(a));
            case 6: return asInt(x.propose(a, b));
            case 7: return asInt(x.vote(a, b > 0));
            case 8: return x.close();
            case 9: return x.due(a);
            case 10: return x.store(a, b);
            case 11: return asInt(x.frost(a));
            case 12: return x.forecast(a);
            case 13: return x.cook(a, b);
            case 14: return x.show(a);
            case 15: return x.go(a);
            case 16: return x.visitor(a, b, c);
            case 17: return x.visits(a);
            case 18: return x.far(a);
            case 19: return x.entry(a, b);
            case 20: return x.same(a, b);
            case 21: return x.joined(a);
            case 22: return x.card(a, b);
            case 23: return x.told(a, b);
            case 24: return x.gave(a, b);
            case 25: return x.ward(a, b);
            default: return x.count(a);
        }
    }

    private static int model(Model m, int which, int a, int b, int c) {
        switch (which) {
            case 0: return m.subscriber();
            case 1: return m.give(a, b);
            case 2: return m.house(a, b, c);
            case 3: return asInt(m.look(a, b));
            case 4: return asInt(m.hand(a, b));
            case 5: return asInt(m.lose(a));
            case 6: return asInt(m.propose(a, b));
            case 7: return asInt(m.vote(a, b > 0));
            case 8: return m.close();
            case 9: return m.due(a);
            case 10: return m.store(a, b);
            case 11: return asInt(m.frost(a));
            case 12: return m.forecast(a);
            case 13: return m.cook(a, b);
            case 14: return m.show(a);
            case 15: return m.go(a);
            case 16: return m.visitor(a, b, c);
            case 17: return m.visits(a);
            case 18: return m.far(a);
            case 19: return m.entry(a, b);
            case 20: return m.same(a, b);
            case 21: return m.joined(a);
            case 22: return m.card(a, b);
            case 23: return m.told(a, b);
            case 24: return m.gave(a, b);
            case 25: return m.ward(a, b);
            default: return m.count(a);
        }
    }

    /** What happened, as lists of rows; every answer is worked out from them. */
    private static final class Model {
        final List<Integer> coins = new ArrayList<>();
        final List<int[]> houses = new ArrayList<>();          // ward, place, grown, children
        final List<int[]> cards = new ArrayList<>();           // subscriber, state
        final List<int[]> looks = new ArrayList<>();           // house, need, week
        final List<int[]> got = new ArrayList<>();             // card, house
        final List<int[]> meals = new ArrayList<>();           // card, house, week, bowls
        final List<Integer> doubles = new ArrayList<>();       // cards
        final List<int[]> passed = new ArrayList<>();          // week, grown, child, need, holds
        final List<int[]> cooked = new ArrayList<>();          // ward, week, bowls
        final List<int[]> stored = new ArrayList<>();          // ward, grams
        final List<int[]> visitors = new ArrayList<>();        // ward, place, many
        final List<int[]> entries = new ArrayList<>();         // charity, five marks
        final Map<Integer, Integer> frosts = new HashMap<>();
        int[] proposal = null;
        Map<Integer, Integer> votes = new HashMap<>();
        int now = 0;

        static boolean in(int n, int low, int high) {
            return low <= n && n <= high;
        }

        static boolean has(List<?> list, int n) {
            return in(n, 0, list.size() - 1);
        }

        int subscriber() {
            if (coins.size() == 20) return NONE;
            coins.add(0);
            return coins.size() - 1;
        }

        int give(int s, int n) {
            if (!has(coins, s) || !in(n, 1, 1000)) return NONE;
            int come = (coins.get(s) + n) / 10 - coins.get(s) / 10;
            if (cards.size() + come > 400) return NONE;
            coins.set(s, coins.get(s) + n);
            for (int i = 0; i < come; i++) cards.add(new int[] {s, 0});
            return come;
        }

        int house(int ward, int place, int folk) {
            if (!in(ward, 0, 5) || !in(place, 0, 99) || !in(folk, 10, 99) || houses.size() == 30) return NONE;
            houses.add(new int[] {ward, place, folk / 10, folk % 10});
            return houses.size() - 1;
        }

        boolean look(int h, int need) {
            if (!has(houses, h) || !in(need, 0, 9)) return false;
            looks.add(new int[] {h, need, now});
            return true;
        }

        boolean hand(int c, int h) {
            if (!has(cards, c) || !has(houses, h) || cards.get(c)[1] != 0) return false;
            cards.get(c)[1] = 1;
            got.add(new int[] {c, h});
            return true;
        }

        boolean lose(int c) {
            if (!has(cards, c) || cards.get(c)[1] > 1) return false;
            cards.get(c)[1] = 3;
            return true;
        }

        boolean propose(int week, int what) {
            if (proposal != null || passed.size() == 40 || !in(week, now, 1040) || what < 0) return false;
            int[] rule = {week, what / 100000, what / 10000 % 10, what / 1000 % 10, what % 1000};
            if (rule[1] > 9 || !in(rule[4], 1, 99)) return false;
            proposal = rule;
            votes = new HashMap<>();
            return true;
        }

        boolean vote(int s, boolean yes) {
            if (proposal == null || !has(coins, s) || votes.containsKey(s)) return false;
            votes.put(s, yes ? coins.get(s) : -coins.get(s));
            return true;
        }

        int close() {
            if (proposal == null) return NONE;
            int sum = 0;
            for (int weight : votes.values()) sum += weight;
            if (sum > 0) passed.add(proposal);
            proposal = null;
            return sum > 0 ? 1 : 0;
        }

        int[] rule() {
            for (int week = now; week >= 0; week--) {
                for (int i = passed.size() - 1; i >= 0; i--) {
                    if (passed.get(i)[0] == week) return passed.get(i);
                }
            }
            return new int[] {0, 1, 1, 0, 10};
        }

        int[] holdingLook(int h) {
            int[] latest = null;
            for (int[] look : looks) {
                if (look[0] == h && now - look[2] < rule()[4]) latest = look;
            }
            return latest;
        }

        int due(int h) {
            if (!has(houses, h)) return NONE;
            int[] look = holdingLook(h);
            if (look != null && look[1] < rule()[3]) return 0;
            return houses.get(h)[2] * rule()[1] + houses.get(h)[3] * rule()[2];
        }

        int grams(int ward) {
            int sum = 0;
            for (int[] row : stored) if (row[0] == ward) sum += row[1];
            for (int[] row : cooked) if (row[0] == ward) sum -= 300 * row[2];
            return sum;
        }

        int eaten(int ward, boolean onlyNow) {
            int sum = 0;
            for (int[] meal : meals) {
                if (houses.get(meal[1])[0] == ward && (!onlyNow || meal[2] == now)) sum += meal[3];
            }
            return sum;
        }

        int cookedIn(int ward, boolean onlyNow) {
            int sum = 0;
            for (int[] row : cooked) if (row[0] == ward && (!onlyNow || row[1] == now)) sum += row[2];
            return sum;
        }

        int bowls(int ward) {
            return cookedIn(ward, true) - eaten(ward, true);
        }

        int store(int ward, int g) {
            if (!in(ward, 0, 5) || !in(g, 1, 100000) || grams(ward) + g > 1000000) return NONE;
            stored.add(new int[] {ward, g});
            return grams(ward);
        }

        boolean frost(int degrees) {
            if (!in(degrees, 0, 9)) return false;
            frosts.put(now, degrees);
            return true;
        }

        int forecast(int ward) {
            if (!in(ward, 0, 5)) return NONE;
            int sum = 0;
            for (int h = 0; h < houses.size(); h++) if (houses.get(h)[0] == ward) sum += due(h);
            int more = 0;
            for (int i = 0; i < frosts.getOrDefault(now, 0); i++) more += sum / 10;
            return sum + more;
        }

        int cook(int ward, int n) {
            if (!in(ward, 0, 5) || !in(n, 1, 2000) || grams(ward) < 300 * n) return NONE;
            cooked.add(new int[] {ward, now, n});
            return bowls(ward);
        }

        int houseOf(int c) {
            for (int[] row : got) if (row[0] == c) return row[1];
            return NONE;
        }

        int[] mealOf(int c) {
            for (int[] meal : meals) if (meal[0] == c) return meal;
            return null;
        }

        boolean fed(int h) {
            for (int[] meal : meals) if (meal[1] == h && meal[2] == now) return true;
            return false;
        }

        int show(int c) {
            if (!has(cards, c)) return NONE;
            if (cards.get(c)[1] == 2) doubles.add(c);
            if (cards.get(c)[1] != 1) return NONE;
            int h = houseOf(c);
            if (fed(h)) return NONE;
            int n = due(h);
            if (n == 0) return 0;
            if (bowls(houses.get(h)[0]) < n) return NONE;
            cards.get(c)[1] = 2;
            meals.add(new int[] {c, h, now, n});
            return n;
        }

        int cardsGot(int h) {
            int sum = 0;
            for (int[] row : got) if (row[1] == h) sum++;
            return sum;
        }

        void pool() {
            List<Integer> able = new ArrayList<>();
            for (int h = 0; h < houses.size(); h++) if (due(h) > 0) able.add(h);
            for (int c = 0; c < cards.size() && !able.isEmpty(); c++) {
                if (cards.get(c)[1] != 0) continue;
                int least = able.get(0);
                for (int h : able) if (cardsGot(h) < cardsGot(least)) least = h;
                hand(c, least);
            }
        }

        int go(int n) {
            if (!in(n, 0, 60)) return NONE;
            int end = Math.min(1040, now + n);
            while (now < end) {
                if (now % 4 == 3) pool();
                now++;
            }
            return now;
        }

        int visitor(int ward, int place, int many) {
            if (!in(ward, 0, 5) || !in(place, 0, 99) || !in(many, 1, 8) || visitors.size() == 4) return NONE;
            visitors.add(new int[] {ward, place, many});
            return visitors.size() - 1;
        }

        List<Integer> waiting(int ward) {
            List<Integer> list = new ArrayList<>();
            for (int h = 0; h < houses.size(); h++) {
                if (houses.get(h)[0] == ward && holdingLook(h) == null) list.add(h);
            }
            return list;
        }

        /** For each waiting house its visitor (NONE), and the sum behind them; null if it can't be asked. */
        int[] way(int ward) {
            List<Integer> list = waiting(ward);
            if (!in(list.size(), 1, 6)) return null;
            List<Integer> able = new ArrayList<>();
            for (int v = 0; v < visitors.size(); v++) if (visitors.get(v)[0] == ward) able.add(v);
            int base = able.size() + 1;
            int ways = 1;
            for (int i = 0; i < list.size(); i++) ways *= base;
            int[] best = null;
            int bestMany = 0;
            int bestSum = 0;
            for (int code = 0; code < ways; code++) {
                int[] tried = new int[list.size() + 1];
                int[] load = new int[4];
                int rest = code;
                int many = 0;
                int sum = 0;
                boolean can = true;
                for (int i = list.size() - 1; i >= 0; i--) {
                    int digit = rest % base;
                    rest /= base;
                    tried[i] = digit < able.size() ? able.get(digit) : NONE;
                    if (tried[i] != NONE) {
                        int[] v = visitors.get(tried[i]);
                        many++;
                        sum += Math.abs(v[1] - houses.get(list.get(i))[1]);
                        can &= ++load[tried[i]] <= v[2];
                    }
                }
                tried[list.size()] = sum;
                if (can && (best == null || many > bestMany || many == bestMany && sum < bestSum)) {
                    best = tried;
                    bestMany = many;
                    bestSum = sum;
                }
            }
            return best;
        }

        int visits(int h) {
            if (!has(houses, h)) return NONE;
            int ward = houses.get(h)[0];
            int[] way = way(ward);
            int at = waiting(ward).indexOf(h);
            return way == null || at < 0 ? NONE : way[at];
        }

        int far(int ward) {
            int[] way = way(ward);
            return way == null ? NONE : way[way.length - 1];
        }

        int entry(int charity, int marks) {
            if (!in(charity, 0, 5) || !in(marks, 0, 99999) || entries.size() == 60) return NONE;
            String digits = String.format("%05d", marks);
            int[] row = new int[6];
            row[0] = charity;
            for (int i = 0; i < 5; i++) row[i + 1] = digits.charAt(i) - '0';
            entries.add(row);
            return entries.size() - 1;
        }

        int same(int a, int b) {
            if (!has(entries, a) || !has(entries, b) || a == b) return NONE;
            int[] one = entries.get(a);
            int[] other = entries.get(b);
            if (one[0] == other[0]) return NONE;
            int alike = 0;
            int differ = 0;
            for (int i = 1; i <= 5; i++) {
                if (one[i] == 9 || other[i] == 9) continue;
                if (one[i] == other[i]) alike++; else differ++;
            }
            if (differ > 0 || alike == 0) return 0;
            return alike >= 3 ? 1 : 2;
        }

        int joined(int e) {
            if (!has(entries, e)) return NONE;
            Set<Integer> seen = new HashSet<>();
            List<Integer> open = new ArrayList<>(List.of(e));
            int least = e;
            while (!open.isEmpty()) {
                int at = open.remove(open.size() - 1);
                if (!seen.add(at)) continue;
                least = Math.min(least, at);
                for (int i = 0; i < entries.size(); i++) if (same(at, i) == 1) open.add(i);
            }
            return least;
        }

        int card(int c, int what) {
            if (!has(cards, c)) return NONE;
            int[] meal = mealOf(c);
            switch (what) {
                case 0: return cards.get(c)[1];
                case 1: return cards.get(c)[0];
                case 2: return houseOf(c);
                case 3: return meal == null ? NONE : meal[2];
                case 4: return meal == null ? 0 : meal[3];
                case 5: return (int) doubles.stream().filter(d -> d == c).count();
                default: return NONE;
            }
        }

        int told(int h, int what) {
            if (!has(houses, h)) return NONE;
            int[] latest = {h, NONE, NONE};
            for (int[] look : looks) if (look[0] == h) latest = look;
            int bowls = 0;
            for (int[] meal : meals) if (meal[1] == h) bowls += meal[3];
            switch (what) {
                case 0: return houses.get(h)[0];
                case 1: return latest[1];
                case 2: return latest[2];
                case 3: return cardsGot(h);
                case 4: return bowls;
                case 5: return fed(h) ? 1 : 0;
                default: return NONE;
            }
        }

        int gave(int s, int what) {
            if (!has(coins, s)) return NONE;
            int used = 0;
            int bowls = 0;
            for (int[] meal : meals) {
                if (cards.get(meal[0])[0] == s) {
                    used++;
                    bowls += meal[3];
                }
            }
            switch (what) {
                case 0: return coins.get(s);
                case 1: return coins.get(s) / 10;
                case 2: return used;
                case 3: return bowls;
                default: return NONE;
            }
        }

        int ward(int ward, int what) {
            if (!in(ward, 0, 5)) return NONE;
            switch (what) {
                case 0: return grams(ward);
                case 1: return bowls(ward);
                case 2: return cookedIn(ward, false) - eaten(ward, false) - bowls(ward);
                case 3: return eaten(ward, false);
                default: return NONE;
            }
        }

        int states(int state) {
            return (int) cards.stream().filter(card -> card[1] == state).count();
        }

        int count(int what) {
            switch (what) {
                case 0: return now;
                case 1: return coins.size();
                case 2: return houses.size();
                case 3: return cards.size();
                case 4: return states(0);
                case 5: return meals.size();
                case 6: return states(3);
                case 7: return doubles.size();
                case 8: return passed.size();
                case 9: return entries.size();
                default: return NONE;
            }
        }
    }
}
