import java.util.ArrayList;
import java.util.List;
import java.util.function.Supplier;
import java.util.function.ToIntFunction;

/**
 * "What is refused changes nothing": two like towns, one of which refuses a call, answer all later calls alike;
 * those that ask, and those by which things go on.
 */
public final class RefusalTest extends Checks {
    private static final int CALLS_OF_A_CHUNK = 230;

    /** One later call. */
    private static final class Later {
        final String call;
        final ToIntFunction<Town> ask;

        Later(String call, ToIntFunction<Town> ask) {
            this.call = call;
            this.ask = ask;
        }
    }

    public static void main(String[] args) {
        sentence("the towns of this test are as told", RefusalTest::townsAreAsTold);
        sentence("refused: subscriber", RefusalTest::subscribers);
        sentence("refused: give", RefusalTest::gifts);
        sentence("refused: house", RefusalTest::houses);
        sentence("refused: look", RefusalTest::looks);
        sentence("refused: hand", RefusalTest::hands);
        sentence("refused: lose", RefusalTest::losses);
        sentence("refused: propose", RefusalTest::proposals);
        sentence("refused: vote", RefusalTest::votes);
        sentence("refused: close", RefusalTest::closings);
        sentence("refused: store", RefusalTest::stores);
        sentence("refused: frost", RefusalTest::frosts);
        sentence("refused: cook", RefusalTest::cooking);
        sentence("refused: show", RefusalTest::showing);
        sentence("shown with nothing due: it stays", RefusalTest::showingWithNothingDue);
        sentence("shown when used: a double, and nothing else", RefusalTest::showingAUsedOne);
        sentence("refused: go", RefusalTest::going);
        sentence("refused: visitor", RefusalTest::visitors);
        sentence("refused: entry", RefusalTest::entries);
        sentence("refused: what only asks", RefusalTest::questions);
        sentence("asking changes nothing", RefusalTest::asking);
        end();
    }

    // ---- the towns

    private static final int GIVERS = 3;
    private static final int HOUSES = 4;
    private static final int CARDS = 8;
    private static final int ENTRIES = 4;
    private static final int USED = 0;
    private static final int OF_A_FED_HOUSE = 1;
    private static final int NOTHING_DUE = 2;
    private static final int TOO_FEW_BOWLS = 3;
    private static final int LOST_WHEN_GIVEN = 4;
    private static final int LOST_WHEN_FREE = 5;
    private static final int FREE = 6;

    /** Week 2, with something of everything; no proposal is open. */
    private static Town quiet() {
        Town x = new Town().giver(25).giver(9).giver(68);
        x.house(0, 10, 23);
        x.house(0, 50, 90);
        x.house(3, 5, 99);
        x.house(0, 70, 54);
        x.pass(0, 215020);
        x.bowls(0, 4);
        x.go(2);
        x.look(1, 4);
        x.handed(USED, 0).handed(OF_A_FED_HOUSE, 0).handed(NOTHING_DUE, 1).handed(TOO_FEW_BOWLS, 2);
        x.handed(LOST_WHEN_GIVEN, 3);
        x.bowls(0, 40).bowls(3, 26);
        x.show(USED);
        x.lose(LOST_WHEN_GIVEN);
        x.lose(LOST_WHEN_FREE);
        x.store(0, 1000);
        x.visitor(0, 20, 1);
        x.visitor(0, 60, 1);
        x.visitor(3, 0, 2);
        x.entry(0, 11199);
        x.entry(1, 11999);
        x.entry(2, 11199);
        x.entry(0, 11199);
        x.frost(7);
        return x;
    }

    /** The same with an open proposal on which subscriber 1 voted. */
    private static Town voting() {
        Town x = quiet();
        x.propose(3, 310010);
        x.vote(1, true);
        return x;
    }

    /** All that came are as many as can be. */
    private static Town full() {
        Town x = new Town().giver(4009);
        for (int i = 1; i < 20; i++) {
            x.subscriber();
        }
        for (int i = 0; i < 30; i++) {
            x.house(i % 6, 3 * i, 10 + 3 * i);
        }
        for (int i = 0; i < 4; i++) {
            x.visitor(0, 20 * i, 1);
        }
        for (int i = 0; i < 60; i++) {
            x.entry(i % 6, 11111 * (i / 2 % 9));
        }
        for (int i = 0; i < 40; i++) {
            x.pass(i, 110010 + 100000 * (i % 4));
        }
        for (int i = 0; i < 10; i++) {
            x.store(0, 100000);
        }
        return x;
    }

    private static void townsAreAsTold() {
        Town x = voting();
        int[] counts = {2, GIVERS, HOUSES, CARDS, 2, 1, 2, 0, 1, ENTRIES};
        for (int what = 0; what < counts.length; what++) {
            due("count " + what, x.count(what), counts[what]);
        }
        due("a house with nothing due", x.due(1), 0);
        due("a forecast with frost", x.forecast(0), 7 + 14 + 7 * 2);
        due("grams", x.ward(0, 0), 1000);
        due("bowls for a house", x.ward(3, 1), x.due(2) - 1);
        due("two of ward 0 are visited", x.far(0), 10 + 10);
        due("the vote", x.vote(1, true), false);
        Town most = full();
        int[] full = {0, 20, 30, 400, 400, 0, 0, 0, 40, 60};
        for (int what = 0; what < full.length; what++) {
            due("count " + what + " of the full one", most.count(what), full[what]);
        }
        due("grams", most.ward(0, 0), 1000000);
    }

    // ---- later calls

    private static int asInt(boolean yes) {
        return yes ? 1 : 0;
    }

    /** All that can be asked of a town with so many of each. */
    private static List<Later> questions(int givers, int houses, int cards, int entries) {
        List<Later> all = new ArrayList<>();
        askOfAll(all, "count", 1, 10, (x, i, what) -> x.count(what));
        askOfAll(all, "ward", 6, 4, Town::ward);
        askOfAll(all, "forecast", 6, 1, (x, i, what) -> x.forecast(i));
        askOfAll(all, "far", 6, 1, (x, i, what) -> x.far(i));
        askOfAll(all, "gave", givers + 1, 4, Town::gave);
        askOfAll(all, "told", houses + 1, 6, Town::told);
        askOfAll(all, "due", houses + 1, 1, (x, i, what) -> x.due(i));
        askOfAll(all, "visits", houses + 1, 1, (x, i, what) -> x.visits(i));
        askOfAll(all, "joined", entries + 1, 1, (x, i, what) -> x.joined(i));
        askOfAll(all, "same", Math.min(entries, 6) + 1, Math.min(entries, 6), Town::same);
        askOfAll(all, "card", cards + 1, 6, Town::card);
        return all;
    }

    private interface Question {
        int ask(Town x, int i, int what);
    }

    private static void askOfAll(List<Later> all, String call, int numbers, int whats, Question question) {
        for (int i = 0; i < numbers; i++) {
            for (int what = 0; what < whats; what++) {
                int number = i;
                int part = what;
                all.add(new Later(call + " of " + i + ", " + what, x -> question.ask(x, number, part)));
            }
        }
    }

    /** Ways in which things can go on; each is tried by itself. */
    private static List<List<Later>> futures() {
        return List.of(ballots(), closing(), closeBallot(), coins(), newcomers(), meals(), weeks());
    }

    private static List<Later> ballots() {
        List<Later> all = new ArrayList<>();
        for (int round = 0; round < 2; round++) {
            for (int i = 0; i < GIVERS; i++) {
                int giver = i;
                all.add(new Later("vote of " + i, x -> asInt(x.vote(giver, giver == 1))));
            }
            all.add(new Later("close", Town::close));
            all.add(new Later("due in that week", x -> x.due(0)));
            all.add(new Later("go", x -> x.go(1)));
            all.add(new Later("due in the next week", x -> x.due(0)));
            all.add(new Later("propose", x -> asInt(x.propose(10, 410010))));
        }
        return all;
    }

    private static List<Later> closing() {
        List<Later> all = new ArrayList<>();
        all.add(new Later("close at once", Town::close));
        all.add(new Later("rules", x -> x.count(8)));
        all.add(new Later("close again", Town::close));
        return all;
    }

    /** 12 coins against the 9 of subscriber 1, so that a vote that weighed twice would be seen. */
    private static List<Later> closeBallot() {
        List<Later> all = new ArrayList<>();
        all.add(new Later("subscriber", Town::subscriber));
        all.add(new Later("12 coins", x -> x.give(GIVERS, 12)));
        all.add(new Later("against it", x -> asInt(x.vote(GIVERS, false))));
        all.add(new Later("close", Town::close));
        return all;
    }

    private static List<Later> coins() {
        List<Later> all = new ArrayList<>();
        for (int i = 0; i < 10 * GIVERS; i++) {
            int giver = i % GIVERS;
            all.add(new Later("one coin of " + giver, x -> x.give(giver, 1)));
        }
        return all;
    }

    private static List<Later> newcomers() {
        List<Later> all = new ArrayList<>();
        all.add(new Later("subscriber", Town::subscriber));
        all.add(new Later("house", x -> x.house(5, 55, 55)));
        all.add(new Later("visitor", x -> x.visitor(5, 5, 5)));
        all.add(new Later("far", x -> x.far(5)));
        all.add(new Later("entry", x -> x.entry(5, 55555)));
        all.add(new Later("another entry", x -> x.entry(4, 55599)));
        all.add(new Later("joined", x -> x.joined(x.count(9) - 1)));
        return all;
    }

    private static List<Later> meals() {
        List<Later> all = new ArrayList<>();
        for (int ward = 0; ward <= 5; ward++) {
            int there = ward;
            all.add(new Later("grams for ward " + ward, x -> x.store(there, 600)));
            all.add(new Later("bowls for ward " + ward, x -> x.cook(there, 2)));
        }
        for (int card = 0; card < CARDS; card++) {
            int shown = card;
            all.add(new Later("show " + card, x -> x.show(shown)));
            all.add(new Later("hand " + card, x -> asInt(x.hand(shown, 0))));
            all.add(new Later("lose " + card, x -> asInt(x.lose(shown))));
        }
        return all;
    }

    private static List<Later> weeks() {
        List<Later> all = new ArrayList<>();
        for (int i = 0; i < 10; i++) {
            all.add(new Later("go", x -> x.go(1)));
            all.add(new Later("frost", x -> asInt(x.frost(1))));
            for (int ward = 0; ward <= 5; ward += 3) {
                int there = ward;
                all.add(new Later("forecast", x -> x.forecast(there)));
                all.add(new Later("left", x -> x.ward(there, 2)));
            }
            for (int house = 0; house < HOUSES; house++) {
                int told = house;
                all.add(new Later("due", x -> x.due(told)));
                all.add(new Later("got", x -> x.told(told, 3)));
                all.add(new Later("fed", x -> x.told(told, 5)));
            }
            all.add(new Later("free ones", x -> x.count(4)));
        }
        return all;
    }

    // ---- the comparison

    private static void alike(String call, Supplier<Town> town, ToIntFunction<Town> refused, int answer,
            List<Later> later) {
        for (int from = 0; from < later.size(); from += CALLS_OF_A_CHUNK) {
            Town as = town.get();
            Town then = town.get();
            due(call, refused.applyAsInt(then), answer);
            for (Later next : later.subList(from, Math.min(later.size(), from + CALLS_OF_A_CHUNK))) {
                due(call + ", and then " + next.call, next.ask.applyAsInt(then), next.ask.applyAsInt(as));
            }
        }
    }

    private static void unchanged(String call, Supplier<Town> town, ToIntFunction<Town> refused, int answer) {
        alike(call, town, refused, answer, questions(GIVERS, HOUSES, CARDS, ENTRIES));
        for (List<Later> future : futures()) {
            alike(call, town, refused, answer, future);
        }
    }

    /** Refused both with an open proposal and without one. */
    private static void none(String call, ToIntFunction<Town> refused) {
        unchanged(call, RefusalTest::quiet, refused, NONE);
        unchanged(call, RefusalTest::voting, refused, NONE);
    }

    private static void no(String call, ToIntFunction<Town> refused) {
        unchanged(call, RefusalTest::quiet, refused, 0);
        unchanged(call, RefusalTest::voting, refused, 0);
    }

    private static void whenFull(String call, ToIntFunction<Town> refused, int answer) {
        alike(call, RefusalTest::full, refused, answer, questions(20, 30, 400, 60));
        for (List<Later> future : futures()) {
            alike(call, RefusalTest::full, refused, answer, future);
        }
    }

    // ---- the refused calls

    private static void subscribers() {
        whenFull("a 21st", Town::subscriber, NONE);
    }

    private static void gifts() {
        for (int subscriber : outside(0, GIVERS - 1)) {
            none("give of " + subscriber, x -> x.give(subscriber, 10));
        }
        for (int n : outside(1, 1000)) {
            none("give " + n, x -> x.give(0, n));
        }
        whenFull("a 401st card", x -> x.give(0, 1), NONE);
        whenFull("a 401st card of another", x -> x.give(1, 10), NONE);
        whenFull("many cards too many", x -> x.give(2, 1000), NONE);
    }

    private static void houses() {
        for (int ward : outside(0, 5)) {
            none("house in " + ward, x -> x.house(ward, 0, 10));
        }
        for (int place : outside(0, 99)) {
            none("house at " + place, x -> x.house(0, place, 10));
        }
        for (int folk : outside(10, 99)) {
            none("house of " + folk, x -> x.house(0, 0, folk));
        }
        whenFull("a 31st", x -> x.house(0, 0, 99), NONE);
    }

    private static void looks() {
        for (int house : outside(0, HOUSES - 1)) {
            no("look at " + house, x -> asInt(x.look(house, 5)));
        }
        for (int need : outside(0, 9)) {
            no("look of " + need, x -> asInt(x.look(0, need)));
            no("a later look of " + need, x -> asInt(x.look(1, need)));
        }
    }

    private static void hands() {
        for (int card : outside(0, CARDS - 1)) {
            no("hand " + card, x -> asInt(x.hand(card, 0)));
        }
        for (int house : outside(0, HOUSES - 1)) {
            no("hand to " + house, x -> asInt(x.hand(FREE, house)));
        }
        for (int card : new int[] {USED, OF_A_FED_HOUSE, LOST_WHEN_GIVEN, LOST_WHEN_FREE}) {
            no("hand " + card, x -> asInt(x.hand(card, 3)));
        }
    }

    private static void losses() {
        for (int card : outside(0, CARDS - 1)) {
            no("lose " + card, x -> asInt(x.lose(card)));
        }
        for (int card : new int[] {USED, LOST_WHEN_GIVEN, LOST_WHEN_FREE}) {
            no("lose " + card, x -> asInt(x.lose(card)));
        }
    }

    private static void proposals() {
        for (int week : outside(2, 1040)) {
            no("propose for " + week, x -> asInt(x.propose(week, 410010)));
        }
        no("propose for the week before", x -> asInt(x.propose(1, 410010)));
        for (int what : outside(1, 999099)) {
            no("propose " + what, x -> asInt(x.propose(2, what)));
        }
        for (int what : new int[] {0, 410000, 410100, 1010010}) {
            no("propose " + what, x -> asInt(x.propose(2, what)));
        }
        unchanged("a second one", RefusalTest::voting, x -> asInt(x.propose(2, 410010)), 0);
        whenFull("a 41st", x -> asInt(x.propose(0, 410010)), 0);
    }

    private static void votes() {
        for (int subscriber : outside(0, GIVERS - 1)) {
            no("vote of " + subscriber, x -> asInt(x.vote(subscriber, true)));
            no("vote of " + subscriber, x -> asInt(x.vote(subscriber, false)));
        }
        for (int i = 0; i < GIVERS; i++) {
            int subscriber = i;
            unchanged("vote on none", RefusalTest::quiet, x -> asInt(x.vote(subscriber, true)), 0);
        }
        unchanged("a second vote", RefusalTest::voting, x -> asInt(x.vote(1, true)), 0);
        unchanged("a second vote", RefusalTest::voting, x -> asInt(x.vote(1, false)), 0);
    }

    private static void closings() {
        unchanged("close", RefusalTest::quiet, Town::close, NONE);
        whenFull("close", Town::close, NONE);
    }

    private static void stores() {
        for (int ward : outside(0, 5)) {
            none("store of " + ward, x -> x.store(ward, 300));
        }
        for (int grams : outside(1, 100000)) {
            none("store " + grams, x -> x.store(0, grams));
        }
        whenFull("one gram too many", x -> x.store(0, 1), NONE);
        whenFull("many grams too many", x -> x.store(0, 100000), NONE);
    }

    private static void frosts() {
        for (int degrees : outside(0, 9)) {
            no("frost " + degrees, x -> asInt(x.frost(degrees)));
        }
    }

    private static void cooking() {
        for (int ward : outside(0, 5)) {
            none("cook in " + ward, x -> x.cook(ward, 1));
        }
        for (int bowls : outside(1, 2000)) {
            none("cook " + bowls, x -> x.cook(0, bowls));
        }
        none("4 bowls of 1000 grams", x -> x.cook(0, 4));
        none("1 bowl of nothing", x -> x.cook(5, 1));
        whenFull("2001 bowls of enough grams", x -> x.cook(0, 2001), NONE);
        whenFull("no bowls", x -> x.cook(0, 0), NONE);
    }

    private static void showing() {
        for (int card : outside(0, CARDS - 1)) {
            none("show " + card, x -> x.show(card));
        }
        int[] cards = {OF_A_FED_HOUSE, TOO_FEW_BOWLS, LOST_WHEN_GIVEN, LOST_WHEN_FREE, FREE};
        for (int card : cards) {
            none("show " + card, x -> x.show(card));
        }
    }

    private static void showingWithNothingDue() {
        no("show", x -> x.show(NOTHING_DUE));
    }

    private static void showingAUsedOne() {
        List<Later> others = new ArrayList<>();
        for (Later question : questions(GIVERS, HOUSES, CARDS, ENTRIES)) {
            if (!question.call.equals("count of 0, 7") && !question.call.equals("card of " + USED + ", 5")) {
                others.add(question);
            }
        }
        alike("show a used one", RefusalTest::quiet, x -> x.show(USED), NONE, others);
        for (List<Later> future : futures()) {
            alike("show a used one", RefusalTest::voting, x -> x.show(USED), NONE, future);
        }
        Town x = quiet();
        x.show(USED);
        due("doubles of the card", x.card(USED, 5), 1);
        due("doubles in all", x.count(7), 1);
    }

    private static void going() {
        for (int n : outside(0, 60)) {
            none("go " + n, x -> x.go(n));
        }
        unchanged("go 0 ends no week", RefusalTest::voting, x -> x.go(0), 2);
    }

    private static void visitors() {
        for (int ward : outside(0, 5)) {
            none("visitor of " + ward, x -> x.visitor(ward, 0, 1));
        }
        for (int place : outside(0, 99)) {
            none("visitor at " + place, x -> x.visitor(0, place, 1));
        }
        for (int many : outside(1, 8)) {
            none("visitor for " + many, x -> x.visitor(0, 10, many));
        }
        whenFull("a fifth", x -> x.visitor(0, 0, 8), NONE);
    }

    private static void entries() {
        for (int charity : outside(0, 5)) {
            none("entry of " + charity, x -> x.entry(charity, 11999));
        }
        for (int marks : outside(0, 99999)) {
            none("entry " + marks, x -> x.entry(3, marks));
        }
        whenFull("a 61st", x -> x.entry(0, 11111), NONE);
    }

    private static void questions() {
        for (int number : outside(0, CARDS)) {
            none("due", x -> x.due(number));
            none("forecast", x -> x.forecast(number));
            none("visits", x -> x.visits(number));
            none("far", x -> x.far(number));
            none("same", x -> x.same(number, 0));
            none("same", x -> x.same(0, number));
            none("joined", x -> x.joined(number));
            none("card", x -> x.card(number, 0));
            none("told", x -> x.told(number, 0));
            none("gave", x -> x.gave(number, 0));
            none("ward", x -> x.ward(number, 0));
        }
        for (int what : outside(0, 9)) {
            none("card", x -> x.card(0, what));
            none("told", x -> x.told(0, what));
            none("gave", x -> x.gave(0, what));
            none("ward", x -> x.ward(0, what));
            none("count", x -> x.count(what));
        }
    }

    private static int askAll(Town x) {
        for (Later question : questions(1, HOUSES, 1, ENTRIES)) {
            question.ask.applyAsInt(x);
        }
        return 0;
    }

    private static void asking() {
        no("asked before", RefusalTest::askAll);
    }
}
