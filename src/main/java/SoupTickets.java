/**
 * Tickets for soup: cards that subscribers' coins pay for, the houses that get them, and the kitchens
 * where they are used. README.md tells how to use it.
 */
public final class SoupTickets {
    public static final int NONE = -1;

    private static final int LAST_WEEK = 1040;
    private static final int MOST_WEEKS_AT_ONCE = 60;
    private static final int WEEKS_BETWEEN_POOLS = 4;
    private static final int POOL_WEEK = 3;
    private static final int WARDS = 6;
    private static final int PLACES = 100;
    private static final int GREATEST_DIGIT = 9;

    private static final int MOST_SUBSCRIBERS = 20;
    private static final int MOST_HOUSES = 30;
    private static final int MOST_CARDS = 400;
    private static final int MOST_VISITORS = 4;
    private static final int MOST_HOUSES_OF_A_VISITOR = 8;

    private static final int MOST_COINS = 1000;
    private static final int COINS_OF_A_CARD = 10;
    private static final int LEAST_FOLK = 10;
    private static final int MOST_FOLK = 99;
    private static final int MOST_GRAMS_AT_ONCE = 100000;
    private static final int MOST_GRAMS = 1000000;
    private static final int GRAMS_OF_A_BOWL = 300;
    private static final int MOST_BOWLS_AT_ONCE = 2000;

    private static final int FREE = 0;
    private static final int GIVEN = 1;
    private static final int USED = 2;
    private static final int LOST = 3;

    private final Subscriber[] subscribers = new Subscriber[MOST_SUBSCRIBERS];
    private final House[] houses = new House[MOST_HOUSES];
    private final Card[] cards = new Card[MOST_CARDS];
    private final Visitor[] visitors = new Visitor[MOST_VISITORS];
    private final Kitchen[] kitchens = new Kitchen[WARDS];
    private final Rules rules = new Rules();
    private final Rounds rounds = new Rounds();
    private final Books books = new Books();
    private final boolean[] isDueInPool = new boolean[MOST_HOUSES];
    private int subscriberCount = 0;
    private int houseCount = 0;
    private int cardCount = 0;
    private int visitorCount = 0;
    private int now = 0;
    private int degreesNow = 0;

    public SoupTickets() {
        for (int i = 0; i < WARDS; i++) {
            kitchens[i] = new Kitchen();
        }
    }

    // ---- subscribers, houses and cards

    public int subscriber() {
        if (subscriberCount >= MOST_SUBSCRIBERS) {
            return NONE;
        }
        subscribers[subscriberCount] = new Subscriber();
        subscriberCount++;
        return subscriberCount - 1;
    }

    public int give(int subscriber, int n) {
        Subscriber giver = subscriberAt(subscriber);
        if (giver == null || n < 1 || n > MOST_COINS) {
            return NONE;
        }
        int coming = (giver.coins % COINS_OF_A_CARD + n) / COINS_OF_A_CARD;
        int cardsThen = cardCount + coming;
        if (cardsThen > MOST_CARDS) {
            return NONE;
        }
        giver.coins += n;
        giver.cards += coming;
        for (int i = cardCount; i < cardsThen; i++) {
            cards[i] = new Card(subscriber);
        }
        cardCount = cardsThen;
        return coming;
    }

    public int house(int ward, int place, int folk) {
        if (!isWard(ward) || !isPlace(place) || folk < LEAST_FOLK || folk > MOST_FOLK) {
            return NONE;
        }
        if (houseCount >= MOST_HOUSES) {
            return NONE;
        }
        houses[houseCount] = new House(ward, place, folk / 10, folk % 10);
        houseCount++;
        return houseCount - 1;
    }

    public boolean look(int house, int need) {
        House seen = houseAt(house);
        if (seen == null || !isDigit(need)) {
            return false;
        }
        seen.need = need;
        seen.lookWeek = now;
        return true;
    }

    public boolean hand(int card, int house) {
        Card handed = cardAt(card);
        House getter = houseAt(house);
        if (handed == null || getter == null || handed.state != FREE) {
            return false;
        }
        putInHands(handed, getter, house);
        return true;
    }

    public boolean lose(int card) {
        Card gone = cardAt(card);
        if (gone == null || (gone.state != FREE && gone.state != GIVEN)) {
            return false;
        }
        gone.state = LOST;
        return true;
    }

    // ---- rules and what is due

    public boolean propose(int week, int what) {
        if (week < now || week > LAST_WEEK || !rules.canOpen(what)) {
            return false;
        }
        rules.openBallot(week, what);
        for (int i = 0; i < subscriberCount; i++) {
            subscribers[i].hasVoted = false;
        }
        return true;
    }

    public boolean vote(int subscriber, boolean yes) {
        Subscriber voter = subscriberAt(subscriber);
        if (voter == null || !rules.isOpen() || voter.hasVoted) {
            return false;
        }
        voter.hasVoted = true;
        rules.weigh(voter.coins, yes);
        return true;
    }

    public int close() {
        return rules.endBallot();
    }

    public int due(int house) {
        House asked = houseAt(house);
        return asked == null ? NONE : bowlsDue(asked, rules.inForce(now));
    }

    // ---- kitchens

    public int store(int ward, int grams) {
        Kitchen kitchen = kitchenAt(ward);
        if (kitchen == null || grams < 1 || grams > MOST_GRAMS_AT_ONCE) {
            return NONE;
        }
        if (kitchen.grams + grams > MOST_GRAMS) {
            return NONE;
        }
        kitchen.grams += grams;
        return kitchen.grams;
    }

    public boolean frost(int degrees) {
        if (!isDigit(degrees)) {
            return false;
        }
        degreesNow = degrees;
        return true;
    }

    public int forecast(int ward) {
        if (!isWard(ward)) {
            return NONE;
        }
        Rule rule = rules.inForce(now);
        int sum = 0;
        for (int i = 0; i < houseCount; i++) {
            if (houses[i].ward == ward) {
                sum += bowlsDue(houses[i], rule);
            }
        }
        // the tenth is cut before it is taken once for each degree
        return sum + degreesNow * (sum / 10);
    }

    public int cook(int ward, int bowls) {
        Kitchen kitchen = kitchenAt(ward);
        if (kitchen == null || bowls < 1 || bowls > MOST_BOWLS_AT_ONCE) {
            return NONE;
        }
        int takes = bowls * GRAMS_OF_A_BOWL;
        if (takes > kitchen.grams) {
            return NONE;
        }
        kitchen.grams -= takes;
        kitchen.bowls += bowls;
        return kitchen.bowls;
    }

    public int show(int card) {
        Card shown = cardAt(card);
        if (shown == null) {
            return NONE;
        }
        if (shown.state == USED) {
            shown.doubles++;
        }
        House eater = houseAt(shown.house);
        if (shown.state != GIVEN || eater == null || eater.fedWeek == now) {
            return NONE;
        }
        int bowls = bowlsDue(eater, rules.inForce(now));
        if (bowls == 0) {
            return 0;
        }
        return serve(shown, eater, bowls);
    }

    public int go(int n) {
        if (n < 0 || n > MOST_WEEKS_AT_ONCE) {
            return NONE;
        }
        for (int i = 0; i < n && now < LAST_WEEK; i++) {
            endWeek();
        }
        return now;
    }

    // ---- visitors

    public int visitor(int ward, int place, int many) {
        if (!isWard(ward) || !isPlace(place) || many < 1 || many > MOST_HOUSES_OF_A_VISITOR) {
            return NONE;
        }
        if (visitorCount >= MOST_VISITORS) {
            return NONE;
        }
        visitors[visitorCount] = new Visitor(ward, place, many);
        visitorCount++;
        return visitorCount - 1;
    }

    public int visits(int house) {
        House asked = houseAt(house);
        if (asked == null || !planRounds(asked.ward)) {
            return NONE;
        }
        return rounds.visitorOf(house);
    }

    public int far(int ward) {
        return planRounds(ward) ? rounds.bestSum : NONE;
    }

    // ---- books of charities

    public int entry(int charity, int marks) {
        return books.write(charity, marks);
    }

    public int same(int a, int b) {
        return books.likenessOf(a, b);
    }

    public int joined(int entry) {
        return books.leastJoined(entry);
    }

    // ---- what is told

    public int card(int card, int what) {
        Card asked = cardAt(card);
        if (asked == null) {
            return NONE;
        }
        switch (what) {
            case 0: return asked.state;
            case 1: return asked.giver;
            case 2: return asked.house;
            case 3: return asked.usedWeek;
            case 4: return asked.bowls;
            case 5: return asked.doubles;
            default: return NONE;
        }
    }

    public int told(int house, int what) {
        House asked = houseAt(house);
        if (asked == null) {
            return NONE;
        }
        switch (what) {
            case 0: return asked.ward;
            case 1: return asked.need;
            case 2: return asked.lookWeek;
            case 3: return asked.cardsGot;
            case 4: return asked.bowls;
            case 5: return asked.fedWeek == now ? 1 : 0;
            default: return NONE;
        }
    }

    public int gave(int subscriber, int what) {
        Subscriber asked = subscriberAt(subscriber);
        if (asked == null) {
            return NONE;
        }
        switch (what) {
            case 0: return asked.coins;
            case 1: return asked.cards;
            case 2: return asked.cardsUsed;
            case 3: return asked.bowls;
            default: return NONE;
        }
    }

    public int ward(int ward, int what) {
        Kitchen asked = kitchenAt(ward);
        if (asked == null) {
            return NONE;
        }
        switch (what) {
            case 0: return asked.grams;
            case 1: return asked.bowls;
            case 2: return asked.left;
            case 3: return asked.eaten;
            default: return NONE;
        }
    }

    public int count(int what) {
        switch (what) {
            case 0: return now;
            case 1: return subscriberCount;
            case 2: return houseCount;
            case 3: return cardCount;
            case 4: return cardsThatAre(FREE);
            case 5: return cardsThatAre(USED);
            case 6: return cardsThatAre(LOST);
            case 7: return doublesOfAll();
            case 8: return rules.passedCount;
            case 9: return books.size;
            default: return NONE;
        }
    }

    // ---- what can be, and what is there

    private static boolean isWard(int ward) {
        return ward >= 0 && ward < WARDS;
    }

    private static boolean isPlace(int place) {
        return place >= 0 && place < PLACES;
    }

    private static boolean isDigit(int n) {
        return n >= 0 && n <= GREATEST_DIGIT;
    }

    private Subscriber subscriberAt(int number) {
        return number >= 0 && number < subscriberCount ? subscribers[number] : null;
    }

    private House houseAt(int number) {
        return number >= 0 && number < houseCount ? houses[number] : null;
    }

    private Card cardAt(int number) {
        return number >= 0 && number < cardCount ? cards[number] : null;
    }

    private Kitchen kitchenAt(int ward) {
        return isWard(ward) ? kitchens[ward] : null;
    }

    private int cardsThatAre(int state) {
        int found = 0;
        for (int i = 0; i < cardCount; i++) {
            if (cards[i].state == state) {
                found++;
            }
        }
        return found;
    }

    private int doublesOfAll() {
        int sum = 0;
        for (int i = 0; i < cardCount; i++) {
            sum += cards[i].doubles;
        }
        return sum;
    }

    // ---- how a week goes

    // Looks are made in NOW alone, so if the latest doesn't hold, no earlier one does.
    private boolean lookHolds(House house, Rule rule) {
        return house.lookWeek != NONE && now - house.lookWeek < rule.holds;
    }

    private int bowlsDue(House house, Rule rule) {
        if (lookHolds(house, rule) && house.need < rule.leastNeed) {
            return 0;
        }
        return house.grown * rule.perGrown + house.children * rule.perChild;
    }

    private static void putInHands(Card card, House house, int number) {
        card.state = GIVEN;
        card.house = number;
        house.cardsGot++;
    }

    private int serve(Card card, House house, int bowls) {
        Kitchen kitchen = kitchenAt(house.ward);
        Subscriber giver = subscriberAt(card.giver);
        if (kitchen == null || giver == null || kitchen.bowls < bowls) {
            return NONE;
        }
        kitchen.bowls -= bowls;
        kitchen.eaten += bowls;
        card.state = USED;
        card.usedWeek = now;
        card.bowls = bowls;
        house.fedWeek = now;
        house.bowls += bowls;
        giver.cardsUsed++;
        giver.bowls += bowls;
        return bowls;
    }

    private void endWeek() {
        // pooled before NOW moves: what is due is that of the week that ends
        if (now % WEEKS_BETWEEN_POOLS == POOL_WEEK) {
            poolFreeCards();
        }
        for (int i = 0; i < WARDS; i++) {
            kitchens[i].left += kitchens[i].bowls;
            kitchens[i].bowls = 0;
        }
        degreesNow = 0;
        now++;
    }

    private void poolFreeCards() {
        Rule rule = rules.inForce(now);
        for (int i = 0; i < houseCount; i++) {
            isDueInPool[i] = bowlsDue(houses[i], rule) > 0;
        }
        for (int i = 0; i < cardCount; i++) {
            if (cards[i].state == FREE) {
                int number = houseNextInPool();
                House next = houseAt(number);
                if (next == null) {
                    return;
                }
                putInHands(cards[i], next, number);
            }
        }
    }

    private int houseNextInPool() {
        int next = NONE;
        int least = 0;
        for (int i = 0; i < houseCount; i++) {
            if (isDueInPool[i] && (next == NONE || houses[i].cardsGot < least)) {
                next = i;
                least = houses[i].cardsGot;
            }
        }
        return next;
    }

    private boolean planRounds(int ward) {
        Rule rule = rules.inForce(now);
        rounds.clear();
        for (int i = 0; i < houseCount; i++) {
            House house = houses[i];
            if (house.ward == ward && !lookHolds(house, rule) && !rounds.addHouse(i, house.place)) {
                return false;
            }
        }
        for (int i = 0; i < visitorCount; i++) {
            if (visitors[i].ward == ward) {
                rounds.addVisitor(i, visitors[i]);
            }
        }
        return rounds.findBest();
    }

    private static final class Subscriber {
        int coins = 0;
        int cards = 0;
        int cardsUsed = 0;
        int bowls = 0;
        boolean hasVoted = false;
    }

    private static final class House {
        final int ward;
        final int place;
        final int grown;
        final int children;
        int need = NONE;
        int lookWeek = NONE;
        int cardsGot = 0;
        int bowls = 0;
        int fedWeek = NONE;

        House(int ward, int place, int grown, int children) {
            this.ward = ward;
            this.place = place;
            this.grown = grown;
            this.children = children;
        }
    }

    private static final class Card {
        final int giver;
        int state = FREE;
        int house = NONE;
        int usedWeek = NONE;
        int bowls = 0;
        int doubles = 0;

        Card(int giver) {
            this.giver = giver;
        }
    }

    private static final class Kitchen {
        int grams = 0;
        int bowls = 0;
        int left = 0;
        int eaten = 0;
    }

    private static final class Visitor {
        final int ward;
        final int place;
        final int many;

        Visitor(int ward, int place, int many) {
            this.ward = ward;
            this.place = place;
            this.many = many;
        }
    }

    private static final class Rule {
        final int fromWeek;
        final int perGrown;
        final int perChild;
        final int leastNeed;
        final int holds;

        Rule(int fromWeek, int what) {
            this.fromWeek = fromWeek;
            this.perGrown = what / 100000;
            this.perChild = what / 10000 % 10;
            this.leastNeed = what / 1000 % 10;
            this.holds = what % 1000;
        }
    }

    /** The rules that were passed, and the ballot on the one that is proposed. */
    private static final class Rules {
        private static final int MOST_PASSED = 40;
        private static final int MOST_WHAT = 999099;
        private static final int MOST_HOLDS = 99;
        private static final int USUAL = 110010;

        final Rule[] passed = new Rule[MOST_PASSED];
        final Rule usual = new Rule(0, USUAL);
        int passedCount = 0;
        Rule proposal = null;
        int coinsFor = 0;
        int coinsAgainst = 0;

        boolean isOpen() {
            return proposal != null;
        }

        boolean canOpen(int what) {
            if (isOpen() || passedCount >= MOST_PASSED || what < 0 || what > MOST_WHAT) {
                return false;
            }
            int holds = what % 1000;
            return holds >= 1 && holds <= MOST_HOLDS;
        }

        void openBallot(int week, int what) {
            proposal = new Rule(week, what);
            coinsFor = 0;
            coinsAgainst = 0;
        }

        void weigh(int coins, boolean yes) {
            if (yes) {
                coinsFor += coins;
            } else {
                coinsAgainst += coins;
            }
        }

        int endBallot() {
            if (!isOpen()) {
                return NONE;
            }
            Rule closed = proposal;
            proposal = null;
            if (coinsFor <= coinsAgainst || passedCount >= MOST_PASSED) {
                return 0;
            }
            passed[passedCount] = closed;
            passedCount++;
            return 1;
        }

        Rule inForce(int week) {
            Rule found = usual;
            for (int i = 0; i < passedCount; i++) {
                Rule rule = passed[i];
                // a like week takes over, as the later passed one
                if (rule.fromWeek <= week && rule.fromWeek >= found.fromWeek) {
                    found = rule;
                }
            }
            return found;
        }
    }

    /** Shares the houses of one ward out among its visitors; its rows are used again for each question. */
    private static final class Rounds {
        private static final int MOST_WAITING = 6;
        private static final int ABOVE_ANY_SUM = MOST_WAITING * PLACES;

        final int[] houseNumber = new int[MOST_WAITING];
        final int[] housePlace = new int[MOST_WAITING];
        final int[] chosen = new int[MOST_WAITING];
        final int[] best = new int[MOST_WAITING];
        final int[] leastFrom = new int[MOST_WAITING + 1];
        final int[] visitorNumber = new int[MOST_VISITORS];
        final int[] visitorPlace = new int[MOST_VISITORS];
        final int[] room = new int[MOST_VISITORS];
        int waiting = 0;
        int walkers = 0;
        int bestSum = 0;

        void clear() {
            waiting = 0;
            walkers = 0;
            bestSum = ABOVE_ANY_SUM;
        }

        boolean addHouse(int number, int place) {
            if (waiting >= MOST_WAITING) {
                return false;
            }
            houseNumber[waiting] = number;
            housePlace[waiting] = place;
            waiting++;
            return true;
        }

        void addVisitor(int number, Visitor visitor) {
            if (walkers >= MOST_VISITORS) {
                return;
            }
            visitorNumber[walkers] = number;
            visitorPlace[walkers] = visitor.place;
            room[walkers] = visitor.many;
            walkers++;
        }

        boolean findBest() {
            if (waiting == 0) {
                return false;
            }
            int rooms = 0;
            for (int i = 0; i < walkers; i++) {
                rooms += room[i];
            }
            // any visitor can go to any house here, so just what the rooms can't hold stays unvisited
            int unvisited = Math.max(0, waiting - rooms);
            sumLeastWays(unvisited);
            tryFrom(this, 0, 0, unvisited);
            return true;
        }

        int visitorOf(int house) {
            for (int i = 0; i < waiting; i++) {
                if (houseNumber[i] == house) {
                    return best[i];
                }
            }
            return NONE;
        }

        // What the houses from one on cost at the least; nothing can be said if some stay unvisited.
        private void sumLeastWays(int unvisited) {
            leastFrom[waiting] = 0;
            for (int i = waiting - 1; i >= 0; i--) {
                leastFrom[i] = unvisited > 0 ? 0 : leastFrom[i + 1] + leastWay(i);
            }
        }

        private int leastWay(int house) {
            int least = PLACES;
            for (int i = 0; i < walkers; i++) {
                least = Math.min(least, way(house, i));
            }
            return least;
        }

        private int way(int house, int walker) {
            return Math.abs(housePlace[house] - visitorPlace[walker]);
        }

        private void keepIfLess(int sum) {
            if (sum < bestSum) {
                bestSum = sum;
                System.arraycopy(chosen, 0, best, 0, waiting);
            }
        }

        // Ways are tried in the order in which the first of like ones counts, so only a lesser sum replaces.
        private static void tryFrom(Rounds rounds, int at, int sum, int unvisited) {
            if (at >= rounds.waiting) {
                rounds.keepIfLess(sum);
                return;
            }
            if (sum + rounds.leastFrom[at] >= rounds.bestSum) {
                return;
            }
            for (int i = 0; i < rounds.walkers; i++) {
                if (rounds.room[i] > 0) {
                    rounds.room[i]--;
                    rounds.chosen[at] = rounds.visitorNumber[i];
                    tryFrom(rounds, at + 1, sum + rounds.way(at, i), unvisited);
                    rounds.room[i]++;
                }
            }
            if (unvisited > 0) {
                rounds.chosen[at] = NONE;
                tryFrom(rounds, at + 1, sum, unvisited - 1);
            }
        }
    }

    private static final class Entry {
        final int charity;
        final int marks;
        int least;

        Entry(int charity, int marks, int number) {
            this.charity = charity;
            this.marks = marks;
            this.least = number;
        }
    }

    /** The entries of all charities, each with the least one that it is joined with. */
    private static final class Books {
        private static final int CHARITIES = 6;
        private static final int MOST_ENTRIES = 60;
        private static final int MOST_MARKS = 99999;
        private static final int MARKS = 5;
        private static final int UNKNOWN = 9;
        private static final int MARKS_OF_THE_SAME = 3;
        private static final int TWO = 0;
        private static final int SAME = 1;
        private static final int DOUBT = 2;

        final Entry[] entries = new Entry[MOST_ENTRIES];
        int size = 0;

        int write(int charity, int marks) {
            if (charity < 0 || charity >= CHARITIES || marks < 0 || marks > MOST_MARKS) {
                return NONE;
            }
            if (size >= MOST_ENTRIES) {
                return NONE;
            }
            int number = size;
            entries[number] = new Entry(charity, marks, number);
            size++;
            joinWithEarlier(number);
            return number;
        }

        int likenessOf(int a, int b) {
            Entry one = entryAt(a);
            Entry other = entryAt(b);
            if (one == null || other == null || one.charity == other.charity) {
                return NONE;
            }
            return compare(one.marks, other.marks);
        }

        int leastJoined(int number) {
            Entry asked = entryAt(number);
            return asked == null ? NONE : asked.least;
        }

        private Entry entryAt(int number) {
            return number >= 0 && number < size ? entries[number] : null;
        }

        private void joinWithEarlier(int number) {
            for (int i = 0; i < number; i++) {
                if (likenessOf(i, number) == SAME) {
                    joinGroups(leastJoined(i), leastJoined(number));
                }
            }
        }

        private void joinGroups(int a, int b) {
            int kept = Math.min(a, b);
            int gone = Math.max(a, b);
            for (int i = 0; i < size; i++) {
                if (entries[i].least == gone) {
                    entries[i].least = kept;
                }
            }
        }

        private static int compare(int one, int other) {
            int alike = 0;
            int restOfOne = one;
            int restOfOther = other;
            for (int i = 0; i < MARKS; i++) {
                int mark = restOfOne % 10;
                int otherMark = restOfOther % 10;
                if (mark != UNKNOWN && otherMark != UNKNOWN) {
                    if (mark != otherMark) {
                        return TWO;
                    }
                    alike++;
                }
                restOfOne /= 10;
                restOfOther /= 10;
            }
            if (alike >= MARKS_OF_THE_SAME) {
                return SAME;
            }
            return alike > 0 ? DOUBT : TWO;
        }
    }
}
