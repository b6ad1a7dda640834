/** A SoupTickets that counts its calls, since the document tells nothing about an object after its 512th. */
final class Town {
    static final int NONE = -1;
    private static final int MOST_CALLS = 512;

    private final SoupTickets tickets = new SoupTickets();
    private int calls = 0;

    private SoupTickets called() {
        calls++;
        if (calls > MOST_CALLS) {
            throw new IllegalStateException("the test makes more than 512 calls of one object");
        }
        return tickets;
    }

    // ---- the document's calls

    int subscriber() { return called().subscriber(); }
    int give(int subscriber, int n) { return called().give(subscriber, n); }
    int house(int ward, int place, int folk) { return called().house(ward, place, folk); }
    boolean look(int house, int need) { return called().look(house, need); }
    boolean hand(int card, int house) { return called().hand(card, house); }
    boolean lose(int card) { return called().lose(card); }
    boolean propose(int week, int what) { return called().propose(week, what); }
    boolean vote(int subscriber, boolean yes) { return called().vote(subscriber, yes); }
    int close() { return called().close(); }
    int due(int house) { return called().due(house); }
    int store(int ward, int grams) { return called().store(ward, grams); }
    boolean frost(int degrees) { return called().frost(degrees); }
    int forecast(int ward) { return called().forecast(ward); }
    int cook(int ward, int bowls) { return called().cook(ward, bowls); }
    int show(int card) { return called().show(card); }
    int go(int n) { return called().go(n); }
    int visitor(int ward, int place, int many) { return called().visitor(ward, place, many); }
    int visits(int house) { return called().visits(house); }
    int far(int ward) { return called().far(ward); }
    int entry(int charity, int marks) { return called().entry(charity, marks); }
    int same(int a, int b) { return called().same(a, b); }
    int joined(int entry) { return called().joined(entry); }
    int card(int card, int what) { return called().card(card, what); }
    int told(int house, int what) { return called().told(house, what); }
    int gave(int subscriber, int what) { return called().gave(subscriber, what); }
    int ward(int ward, int what) { return called().ward(ward, what); }
    int count(int what) { return called().count(what); }

    // ---- how a test makes what it needs; each throws if the town doesn't come to be

    private static void must(boolean so, String what) {
        if (!so) {
            throw new IllegalStateException("a test could not make its town: " + what);
        }
    }

    /** A new subscriber who gives coins, in as many gifts as it takes. */
    Town giver(int coins) {
        int number = subscriber();
        must(number != NONE, "a subscriber");
        for (int left = coins; left > 0; left -= 1000) {
            must(give(number, Math.min(left, 1000)) != NONE, "coins");
        }
        return this;
    }

    /** A house of one ward with so many grown and no children. */
    Town home(int ward, int place, int grown) {
        must(house(ward, place, grown * 10) != NONE, "a house");
        return this;
    }

    /** Subscriber 0, who must have coins, passes a rule alone. */
    Town pass(int week, int what) {
        must(propose(week, what) && vote(0, true) && close() == 1, "a rule");
        return this;
    }

    /** Bowls at a kitchen, and just what they take of the store. */
    Town bowls(int ward, int n) {
        must(store(ward, 300 * n) != NONE && cook(ward, n) != NONE, "bowls");
        return this;
    }

    /** A visitor of ward 0 at its place 0, who has time for all. */
    Town visitorAtWard() {
        must(visitor(0, 0, 8) != NONE, "a visitor");
        return this;
    }

    Town handed(int card, int house) {
        must(hand(card, house), "a card in a house's hands");
        return this;
    }

    /** Goes on to a week, in as many steps as it takes. */
    Town until(int week) {
        int now = count(0);
        while (now < week) {
            int then = go(Math.min(60, week - now));
            must(then > now, "a later week");
            now = then;
        }
        return this;
    }
}
