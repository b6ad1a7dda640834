/** The sentences of the promises 1 to 28 that name a boundary case, each with a test of its own. */
public final class PromiseEdgesTest extends Checks {
    private static final int LAST_WEEK = 1040;

    public static void main(String[] args) {
        newObject();
        subscribersAndCards();
        rules();
        kitchens();
        visitors();
        books();
        whatIsTold();
        end();
    }

    // ---- promise 1

    private static void newObject() {
        sentence("1: Nothing is there", PromiseEdgesTest::nothingIsThere);
        sentence("1: NOW is 0", () -> due("NOW", new Town().count(0), 0));
        sentence("1: a new object (has nothing of another)", PromiseEdgesTest::eachItsOwn);
        sentence("NONE = -1", () -> due("NONE", SoupTickets.NONE, -1));
    }

    private static void nothingIsThere() {
        Town x = new Town();
        for (int what = 0; what <= 9; what++) {
            due("count " + what, x.count(what), 0);
        }
        for (int ward = 0; ward <= 5; ward++) {
            due("forecast", x.forecast(ward), 0);
            due("far", x.far(ward), NONE);
            for (int what = 0; what <= 3; what++) {
                due("ward, what " + what, x.ward(ward, what), 0);
            }
        }
        due("no subscriber to give", x.give(0, 10), NONE);
        due("no subscriber to tell of", x.gave(0, 0), NONE);
        due("no house to look at", x.look(0, 0), false);
        due("no house to tell of", x.told(0, 0), NONE);
        due("no house to which something is due", x.due(0), NONE);
        due("no house to visit", x.visits(0), NONE);
        due("no card to hand", x.hand(0, 0), false);
        due("no card to lose", x.lose(0), false);
        due("no card to show", x.show(0), NONE);
        due("no card to tell of", x.card(0, 0), NONE);
        due("no proposal to vote on", x.vote(0, true), false);
        due("no proposal to close", x.close(), NONE);
        due("no grams to cook", x.cook(0, 1), NONE);
        due("no entry", x.joined(0), NONE);
        due("no entries", x.same(0, 1), NONE);
    }

    private static void eachItsOwn() {
        Town one = new Town().giver(25).home(0, 0, 9).home(0, 0, 1).bowls(0, 3).pass(0, 210010);
        one.frost(9);
        one.go(3);
        one.entry(0, 0);
        one.propose(3, 110010);
        nothingIsThere();
        Town other = new Town().home(0, 0, 9).home(0, 0, 1);
        due("frost and rules of the other", other.forecast(0), 10);
    }

    // ---- promises 2 to 7

    private static void subscribersAndCards() {
        sentence("2: A SUBSCRIBER comes: the number; NONE if 20 came", PromiseEdgesTest::subscriberNumbers);
        sentence("3: COINS are given (1 .. 1000)", PromiseEdgesTest::coinsGiven);
        sentence("3: how many CARDS come", PromiseEdgesTest::cardsCome);
        sentence("3: NONE if there is no such SUBSCRIBER", PromiseEdgesTest::noSuchGiver);
        sentence("3: NONE if more than 400 CARDS would be", PromiseEdgesTest::moreThan400);
        sentence("4: A HOUSE comes: its number", PromiseEdgesTest::houseNumbers);
        sentence("4: Folk is GROWN * 10 + CHILDREN; NONE if that can't be", PromiseEdgesTest::folkOfAHouse);
        sentence("4: NONE if no such WARD or PLACE", PromiseEdgesTest::noSuchWardOrPlace);
        sentence("4: NONE if 30 came", PromiseEdgesTest::thirtyCame);
        sentence("5: A LOOK: true; false if there is no such HOUSE", PromiseEdgesTest::lookAtAHouse);
        sentence("5: false if there is no such NEED", PromiseEdgesTest::lookOfANeed);
        sentence("6: A free CARD is GIVEN to a HOUSE: true", PromiseEdgesTest::handAFreeCard);
        sentence("6: false if there is none such (CARD)", PromiseEdgesTest::handNoSuchCard);
        sentence("6: false if there is none such (HOUSE)", PromiseEdgesTest::handToNoSuchHouse);
        sentence("7: A CARD that is free or GIVEN is lost: true", PromiseEdgesTest::loseACard);
        sentence("7: false if there is none such", PromiseEdgesTest::loseNoSuchCard);
    }

    private static void subscriberNumbers() {
        Town x = new Town();
        for (int i = 0; i < 20; i++) {
            due("the number", x.subscriber(), i);
            due("no coins yet", x.gave(i, 0), 0);
            due("none behind it yet", x.gave(i + 1, 0), NONE);
        }
        due("20 came", x.subscriber(), NONE);
        due("the 20th gives", x.give(19, 10), 1);
        due("20 came still", x.subscriber(), NONE);
    }

    private static void coinsGiven() {
        Town x = new Town().giver(0);
        for (int n : outside(1, 1000)) {
            due("give " + n, x.give(0, n), NONE);
        }
        due("give 0", x.give(0, 0), NONE);
        due("nothing was given", x.gave(0, 0), 0);
        due("give 1", x.give(0, 1), 0);
        due("give 1000", x.give(0, 1000), 100);
        due("all was given", x.gave(0, 0), 1001);
        due("give 1001", x.give(0, 1001), NONE);
        due("give 999", x.give(0, 999), 100);
        due("all was given", x.gave(0, 0), 2000);
    }

    private static void cardsCome() {
        Town x = new Town().giver(0).giver(0);
        int[] coins = {9, 1, 10, 19, 1, 5, 4, 1, 1000, 999, 1};
        int[] cards = {0, 1, 1, 1, 1, 0, 0, 1, 100, 99, 1};
        int all = 0;
        for (int i = 0; i < coins.length; i++) {
            due("give " + coins[i], x.give(1, coins[i]), cards[i]);
            all += cards[i];
            due("cards there", x.count(3), all);
            due("cards of the giver", x.gave(1, 1), all);
        }
        due("cards of the other", x.gave(0, 1), 0);
    }

    private static void noSuchGiver() {
        Town x = new Town();
        due("none came", x.give(0, 10), NONE);
        x.giver(0).giver(0);
        for (int subscriber : outside(0, 1)) {
            due("give of " + subscriber, x.give(subscriber, 10), NONE);
        }
        due("the first", x.give(0, 10), 1);
        due("the last", x.give(1, 10), 1);
    }

    private static void moreThan400() {
        Town x = new Town().giver(3009).giver(0);
        due("300 are there, and a rest of 9: 100 more", x.give(0, 1000), 100);
        due("400 are there, and a rest of 9", x.count(3), 400);
        due("1 coin to the rest of 9", x.give(0, 1), NONE);
        due("9 coins of the other", x.give(1, 9), 0);
        due("1 more of the other", x.give(1, 1), NONE);
        Town over = new Town().giver(3009);
        due("991 make 100 of 1000", over.give(0, 991), 100);
        due("400", over.count(3), 400);
        Town whole = new Town().giver(3019);
        due("301 and 100 more, with a rest", whole.give(0, 991), NONE);
        due("none of them comes", whole.count(3), 301);
        due("no coin is taken", whole.gave(0, 0), 3019);
        due("990 are 99", whole.give(0, 990), 99);
        due("400", whole.count(3), 400);
        due("the rest of 9 is there yet", whole.give(0, 1), NONE);
        Town lost = new Town().giver(4000).home(0, 0, 1);
        lost.lose(0);
        due("a lost one makes no room", lost.give(0, 10), NONE);
        due("the last card can be handed", lost.hand(399, 0), true);
    }

    private static void houseNumbers() {
        Town x = new Town();
        for (int i = 0; i < 30; i++) {
            due("its number", x.house(i / 5, i, 10), i);
            due("its ward", x.told(i, 0), i / 5);
            due("none behind it yet", x.told(i + 1, 0), NONE);
        }
    }

    private static void folkOfAHouse() {
        for (int folk = -20; folk <= 130; folk++) {
            boolean can = folk >= 10 && folk <= 99;
            Town x = new Town();
            due("folk " + folk, x.house(0, 0, folk), can ? 0 : NONE);
            due("due to folk " + folk, x.due(0), can ? folk / 10 + folk % 10 : NONE);
        }
        Town x = new Town();
        for (int folk : outside(10, 99)) {
            due("folk " + folk, x.house(0, 0, folk), NONE);
        }
    }

    private static void noSuchWardOrPlace() {
        Town x = new Town();
        for (int ward : outside(0, 5)) {
            due("ward " + ward, x.house(ward, 0, 10), NONE);
        }
        for (int place : outside(0, 99)) {
            due("place " + place, x.house(0, place, 10), NONE);
        }
        due("none came", x.count(2), 0);
        int[][] corners = {{0, 0}, {0, 99}, {5, 0}, {5, 99}};
        for (int i = 0; i < corners.length; i++) {
            due("a corner", x.house(corners[i][0], corners[i][1], 10), i);
        }
        x.visitor(5, 0, 8);
        due("0 and 99 of ward 5", x.far(5), 99);
    }

    private static void thirtyCame() {
        Town x = new Town();
        for (int i = 0; i < 29; i++) {
            x.home(0, i, 1);
        }
        due("29 came", x.house(1, 2, 34), 29);
        due("30 came", x.house(1, 2, 34), NONE);
        due("30 are there", x.count(2), 30);
        due("the last can be looked at", x.look(29, 5), true);
        due("none behind it", x.look(30, 5), false);
    }

    private static void lookAtAHouse() {
        Town x = new Town();
        due("none came", x.look(0, 5), false);
        x.home(0, 0, 1).home(0, 0, 1).home(0, 0, 1);
        for (int house : outside(0, 2)) {
            due("look at " + house, x.look(house, 5), false);
        }
        due("the first", x.look(0, 5), true);
        due("the last", x.look(2, 6), true);
        due("told of the first", x.told(0, 1), 5);
        due("not of the second", x.told(1, 1), NONE);
        due("told of the last", x.told(2, 1), 6);
    }

    private static void lookOfANeed() {
        Town x = new Town().home(0, 0, 1);
        for (int need : outside(0, 9)) {
            due("need " + need, x.look(0, need), false);
        }
        due("none told", x.told(0, 1), NONE);
        due("no week of a look", x.told(0, 2), NONE);
        due("need 0", x.look(0, 0), true);
        due("told", x.told(0, 1), 0);
        due("need 9", x.look(0, 9), true);
        due("told", x.told(0, 1), 9);
    }

    private static void handAFreeCard() {
        Town x = new Town().giver(20).home(0, 0, 1).home(0, 0, 1);
        due("hand", x.hand(1, 1), true);
        due("given", x.card(1, 0), 1);
        due("its house", x.card(1, 2), 1);
        due("that house got one", x.told(1, 3), 1);
        due("the other got none", x.told(0, 3), 0);
        due("one is free", x.count(4), 1);
        due("the other card is free", x.card(0, 0), 0);
        due("to the same house", x.hand(0, 1), true);
        due("two", x.told(1, 3), 2);
    }

    private static void handNoSuchCard() {
        Town x = new Town().home(0, 0, 1).home(0, 0, 1);
        due("no card came", x.hand(0, 0), false);
        x.giver(40).bowls(0, 1);
        for (int card : outside(0, 3)) {
            due("card " + card, x.hand(card, 0), false);
        }
        x.handed(0, 0).handed(1, 0);
        due("a given one, to another house", x.hand(0, 1), false);
        due("a given one, to the same house", x.hand(0, 0), false);
        due("its house", x.card(0, 2), 0);
        x.show(0);
        due("a used one", x.hand(0, 1), false);
        x.lose(1);
        due("a lost one that was given", x.hand(1, 1), false);
        x.lose(2);
        due("a lost one that was free", x.hand(2, 1), false);
        due("house 1 got none", x.told(1, 3), 0);
        due("the last one", x.hand(3, 1), true);
    }

    private static void handToNoSuchHouse() {
        Town x = new Town().giver(10);
        due("no house came", x.hand(0, 0), false);
        x.home(0, 0, 1).home(0, 0, 1).home(0, 0, 1);
        for (int house : outside(0, 2)) {
            due("house " + house, x.hand(0, house), false);
        }
        due("free yet", x.card(0, 0), 0);
        due("the last one", x.hand(0, 2), true);
    }

    private static void loseACard() {
        Town x = new Town().giver(20).home(0, 0, 1).handed(1, 0);
        due("a free one", x.lose(0), true);
        due("one is lost", x.count(6), 1);
        due("none is free", x.count(4), 0);
        due("a given one", x.lose(1), true);
        due("two are lost", x.count(6), 2);
        x.bowls(0, 1);
        due("a lost one is of no use", x.show(1), NONE);
        due("nobody is fed", x.told(0, 5), 0);
        x.until(4);
        due("a lost one isn't pooled", x.card(0, 0), 3);
    }

    private static void loseNoSuchCard() {
        Town x = new Town().home(0, 0, 1).bowls(0, 1);
        due("no card came", x.lose(0), false);
        x.giver(20).handed(0, 0);
        for (int card : outside(0, 1)) {
            due("card " + card, x.lose(card), false);
        }
        x.show(0);
        due("a used one", x.lose(0), false);
        due("it is used yet", x.card(0, 0), 2);
        due("the last one", x.lose(1), true);
        due("a lost one", x.lose(1), false);
        due("one is lost", x.count(6), 1);
    }

    // ---- promises 8 to 11

    private static void rules() {
        sentence("8: A PROPOSAL of a RULE from a WEEK on (NOW or behind it)", PromiseEdgesTest::nowOrBehindIt);
        sentence("8: What is GROWN * 100000 + child * 10000 + NEED * 1000 + holds", PromiseEdgesTest::partsOfARule);
        sentence("8: False if one is open", PromiseEdgesTest::oneIsOpen);
        sentence("8: False if it can't be", PromiseEdgesTest::ruleThatCantBe);
        sentence("8: False if 40 were passed", PromiseEdgesTest::fortyPassed);
        sentence("9: A vote: true; false if none is open", PromiseEdgesTest::voteOnNone);
        sentence("9: false if there is no such SUBSCRIBER", PromiseEdgesTest::noSuchVoter);
        sentence("9: false if they voted", PromiseEdgesTest::theyVoted);
        sentence("10: The PROPOSAL is closed: 1 PASSED, 0 not", PromiseEdgesTest::closedOne);
        sentence("10: NONE if none is open", PromiseEdgesTest::closeNone);
        sentence("11: DUE NOW", PromiseEdgesTest::dueNow);
        sentence("11: NONE if there is no such HOUSE", PromiseEdgesTest::dueToNoSuchHouse);
    }

    private static void nowOrBehindIt() {
        Town x = new Town().giver(1).until(5);
        due("week 4", x.propose(4, 110010), false);
        due("week 0", x.propose(0, 110010), false);
        due("none is open", x.close(), NONE);
        due("NOW", x.propose(5, 110010), true);
        x.close();
        due("the next week", x.propose(6, 110010), true);
        x.close();
        due("the last week", x.propose(LAST_WEEK, 110010), true);
        x.close();
        for (int week : outside(5, LAST_WEEK)) {
            due("week " + week, x.propose(week, 110010), false);
        }
        x.until(LAST_WEEK);
        due("week 1039 in the last one", x.propose(1039, 110010), false);
        due("week 1041 in the last one", x.propose(1041, 110010), false);
        due("the last one", x.propose(LAST_WEEK, 110010), true);
    }

    private static void partsOfARule() {
        int[][] parts = {{0, 0, 0, 1}, {9, 9, 9, 99}, {0, 9, 0, 99}, {9, 0, 9, 1}, {1, 2, 3, 4}, {0, 0, 9, 10},
            {0, 0, 0, 99}, {9, 0, 0, 1}, {0, 9, 9, 99}, {8, 7, 6, 55}};
        for (int[] part : parts) {
            Town x = new Town().giver(1);
            x.house(0, 0, 37);
            int what = part[0] * 100000 + part[1] * 10000 + part[2] * 1000 + part[3];
            int all = 3 * part[0] + 7 * part[1];
            x.pass(0, what);
            due(what + ": all", x.due(0), all);
            x.look(0, part[2]);
            due(what + ": the least need", x.due(0), all);
            if (part[2] > 0) {
                x.look(0, part[2] - 1);
                due(what + ": a lesser need", x.due(0), 0);
                due(what + ": the last week of the look", x.until(part[3] - 1).due(0), 0);
                due(what + ": the week behind it", x.until(part[3]).due(0), all);
            }
        }
    }

    private static void oneIsOpen() {
        Town x = new Town().giver(1).home(0, 0, 1);
        due("the first", x.propose(0, 210010), true);
        due("the same again", x.propose(0, 210010), false);
        due("another", x.propose(7, 310010), false);
        x.vote(0, true);
        due("when all voted", x.propose(0, 310010), false);
        x.go(1);
        due("when its week is over", x.propose(1, 310010), false);
        x.close();
        due("it was the first", x.due(0), 2);
        due("when it is closed", x.propose(1, 310010), true);
    }

    private static void ruleThatCantBe() {
        Town x = new Town();
        int[] whats = {0, 100, 999, 1000, 10000, 100000, 990000, 110100, 110999, 999000, 999100, 999999,
            1000000, 1000001, 1000010, 1099099, 1110010, -1, -10, -10010, -110010, -999099};
        for (int what : whats) {
            due("what " + what, x.propose(0, what), false);
        }
        for (int what : outside(1, 999099)) {
            due("what " + what, x.propose(0, what), false);
        }
        due("none is open", x.close(), NONE);
        for (int what : new int[] {1, 99, 1001, 10001, 100001, 999001, 999099}) {
            due("what " + what, x.propose(0, what), true);
            due("closed", x.close(), 0);
        }
    }

    private static void fortyPassed() {
        Town x = new Town().giver(1).home(0, 0, 1);
        for (int i = 0; i < 20; i++) {
            x.pass(i, 210010);
        }
        for (int i = 0; i < 45; i++) {
            due("one that isn't passed", x.propose(0, 310010), true);
            due("doesn't count", x.close(), 0);
        }
        for (int i = 20; i < 39; i++) {
            x.pass(0, 210010);
        }
        due("39 passed", x.count(8), 39);
        due("the 40th", x.propose(0, 910010), true);
        x.vote(0, true);
        due("is passed", x.close(), 1);
        due("40 passed", x.count(8), 40);
        due("the 41st", x.propose(0, 310010), false);
        due("in a later week", x.propose(LAST_WEEK, 310010), false);
        due("none is open", x.close(), NONE);
        due("no vote", x.vote(0, true), false);
        due("the 40th is in force", x.due(0), 9);
        due("the 20th in its week", x.until(19).due(0), 2);
    }

    private static void voteOnNone() {
        Town x = new Town().giver(1);
        due("never one", x.vote(0, true), false);
        due("nor against", x.vote(0, false), false);
        x.propose(0, 110010);
        due("one", x.vote(0, true), true);
        x.close();
        due("closed", x.vote(0, true), false);
        x.propose(0, 110010);
        due("a vote on none doesn't count", x.close(), 0);
    }

    private static void noSuchVoter() {
        Town x = new Town();
        x.propose(0, 110010);
        due("none came", x.vote(0, true), false);
        x.giver(1).giver(1);
        for (int subscriber : outside(0, 1)) {
            due("vote of " + subscriber, x.vote(subscriber, true), false);
            due("vote of " + subscriber, x.vote(subscriber, false), false);
        }
        due("the first", x.vote(0, true), true);
        due("the last", x.vote(1, false), true);
        due("those that aren't there weigh nothing", x.close(), 0);
    }

    private static void theyVoted() {
        Town x = new Town().giver(5).giver(7);
        for (int i = 0; i < 18; i++) {
            x.giver(0);
        }
        x.propose(0, 110010);
        for (int i = 0; i < 20; i++) {
            due("a vote", x.vote(i, i == 0), true);
        }
        for (int i = 0; i < 20; i++) {
            due("a second for it", x.vote(i, true), false);
            due("a second against it", x.vote(i, false), false);
        }
        x.give(0, 9);
        due("a second with more coins", x.vote(0, true), false);
        x.go(1);
        due("a second in the next week", x.vote(0, true), false);
        due("5 for, 7 against", x.close(), 0);
        x.propose(1, 110010);
        for (int i = 0; i < 20; i++) {
            due("a vote on the next", x.vote(i, true), true);
        }
        due("all for it", x.close(), 1);
    }

    private static void closedOne() {
        Town x = new Town().giver(1).giver(1);
        x.propose(0, 110010);
        due("no votes", x.close(), 0);
        due("none passed", x.count(8), 0);
        x.propose(0, 110010);
        x.vote(0, true);
        x.vote(1, false);
        due("as many", x.close(), 0);
        x.give(0, 1);
        x.propose(0, 110010);
        x.vote(0, true);
        x.vote(1, false);
        due("one more", x.close(), 1);
        due("one passed", x.count(8), 1);
        x.give(1, 2);
        x.propose(0, 110010);
        x.vote(0, true);
        x.vote(1, false);
        due("one less", x.close(), 0);
        due("one passed", x.count(8), 1);
    }

    private static void closeNone() {
        Town x = new Town().giver(1);
        due("never one", x.close(), NONE);
        x.propose(0, 110010);
        x.vote(0, true);
        due("one", x.close(), 1);
        due("closed", x.close(), NONE);
        due("passed but once", x.count(8), 1);
        x.propose(0, 0);
        due("one that can't be", x.close(), NONE);
    }

    private static void dueNow() {
        Town x = new Town().giver(30).pass(2, 990099).pass(3, 99);
        x.house(0, 0, 99);
        x.house(0, 0, 10);
        due("the most without a rule", x.due(0), 18);
        due("the least without a rule", x.due(1), 1);
        x.until(2);
        due("the most of all", x.due(0), 162);
        due("9 for one grown", x.due(1), 9);
        x.handed(0, 0).bowls(0, 200);
        due("fed", x.show(0), 162);
        due("due yet", x.due(0), 162);
        x.until(3);
        due("0 for each", x.due(0), 0);
    }

    private static void dueToNoSuchHouse() {
        Town x = new Town();
        due("none came", x.due(0), NONE);
        x.home(0, 0, 1).home(0, 0, 2);
        for (int house : outside(0, 1)) {
            due("house " + house, x.due(house), NONE);
        }
        due("the first", x.due(0), 1);
        due("the last", x.due(1), 2);
    }

    // ---- promises 12 to 17

    private static void kitchens() {
        sentence("12: Grams come to the STORE of a WARD (1 .. 100000)", PromiseEdgesTest::gramsThatCome);
        sentence("12: 1000000 there at most", PromiseEdgesTest::aMillionGrams);
        sentence("12: NONE if that can't be (no such WARD)", PromiseEdgesTest::storeOfNoWard);
        sentence("13: FROST of NOW in all WARDS: true; false if it can't be", PromiseEdgesTest::frostInAllWards);
        sentence("14: FORECAST; NONE if there is no such WARD", PromiseEdgesTest::forecastOfNoWard);
        sentence("15: BOWLS are cooked (1 .. 2000): how many are there", PromiseEdgesTest::bowlsCooked);
        sentence("15: NONE if there is no such WARD", PromiseEdgesTest::cookInNoWard);
        sentence("15: NONE if there is not so much in the STORE", PromiseEdgesTest::notSoMuch);
        sentence("16: NONE if there is none such GIVEN", PromiseEdgesTest::noneSuchGiven);
        sentence("16: of a USED one it is a DOUBLE", PromiseEdgesTest::doubleOfAUsedOne);
        sentence("16: or the HOUSE was fed in this WEEK", PromiseEdgesTest::fedInThisWeek);
        sentence("16: 0 if nothing is DUE (it stays)", PromiseEdgesTest::nothingDue);
        sentence("16: NONE if there aren't so many BOWLS", PromiseEdgesTest::notSoManyBowls);
        sentence("16: how many BOWLS (it is USED)", PromiseEdgesTest::used);
        sentence("16: the first of these", PromiseEdgesTest::theFirstOfThese);
        sentence("17: n WEEKS end (0 .. 60): NOW", PromiseEdgesTest::weeksEnd);
        sentence("17: 1040 at most", PromiseEdgesTest::lastWeek);
        sentence("17: NONE for another n", PromiseEdgesTest::anotherN);
    }

    private static void gramsThatCome() {
        Town x = new Town();
        for (int grams : outside(1, 100000)) {
            due("grams " + grams, x.store(0, grams), NONE);
        }
        due("grams 0", x.store(0, 0), NONE);
        due("none came", x.ward(0, 0), 0);
        due("1", x.store(0, 1), 1);
        due("100000", x.store(0, 100000), 100001);
        due("100001", x.store(0, 100001), NONE);
        due("99999", x.store(0, 99999), 200000);
        for (int grams : outside(1, 100000)) {
            due("grams " + grams, x.store(0, grams), NONE);
        }
        due("there", x.ward(0, 0), 200000);
    }

    private static void aMillionGrams() {
        Town x = new Town();
        for (int i = 1; i <= 9; i++) {
            due("there", x.store(3, 100000), 100000 * i);
        }
        due("2 less", x.store(3, 99998), 999998);
        due("3 more", x.store(3, 3), NONE);
        due("100000 more", x.store(3, 100000), NONE);
        due("1 more", x.store(3, 1), 999999);
        due("2 more", x.store(3, 2), NONE);
        due("1 more", x.store(3, 1), 1000000);
        due("1 more", x.store(3, 1), NONE);
        due("there", x.ward(3, 0), 1000000);
        due("another ward", x.store(4, 100000), 100000);
        x.cook(3, 1);
        due("301 behind a bowl", x.store(3, 301), NONE);
        due("300 behind a bowl", x.store(3, 300), 1000000);
    }

    private static void storeOfNoWard() {
        Town x = new Town();
        for (int ward : outside(0, 5)) {
            due("ward " + ward, x.store(ward, 1), NONE);
        }
        for (int ward = 0; ward <= 5; ward++) {
            due("nothing came", x.ward(ward, 0), 0);
            due("ward " + ward, x.store(ward, ward + 1), ward + 1);
        }
    }

    private static void frostInAllWards() {
        Town x = new Town();
        for (int ward = 0; ward <= 5; ward++) {
            x.home(ward, 0, 9).home(ward, 0, 9).home(ward, 0, 2);
        }
        due("frost 9", x.frost(9), true);
        for (int degrees : outside(0, 9)) {
            due("frost " + degrees, x.frost(degrees), false);
        }
        for (int ward = 0; ward <= 5; ward++) {
            due("ward " + ward, x.forecast(ward), 20 + 9 * 2);
        }
        due("frost 1", x.frost(1), true);
        for (int ward = 0; ward <= 5; ward++) {
            due("ward " + ward, x.forecast(ward), 20 + 2);
        }
        due("frost 0", x.frost(0), true);
        due("none", x.forecast(0), 20);
    }

    private static void forecastOfNoWard() {
        Town x = new Town().home(0, 0, 3).home(5, 0, 4);
        for (int ward : outside(0, 5)) {
            due("ward " + ward, x.forecast(ward), NONE);
        }
        due("the first", x.forecast(0), 3);
        due("one without houses", x.forecast(1), 0);
        due("the last", x.forecast(5), 4);
    }

    private static void bowlsCooked() {
        Town x = new Town();
        for (int i = 0; i < 10; i++) {
            x.store(5, 100000);
        }
        // 14316558 bowls take 104 grams, if the product is cut to an int
        for (int bowls : new int[] {0, 2001, 14316558, 14316559, 1 << 30, 1 << 29}) {
            due("cook " + bowls, x.cook(5, bowls), NONE);
        }
        for (int bowls : outside(1, 2000)) {
            due("cook " + bowls, x.cook(5, bowls), NONE);
        }
        due("none is there", x.ward(5, 1), 0);
        due("all grams are there", x.ward(5, 0), 1000000);
        due("cook 1", x.cook(5, 1), 1);
        due("cook 2000", x.cook(5, 2000), 2001);
        due("cook 1 more", x.cook(5, 1), 2002);
        due("grams", x.ward(5, 0), 1000000 - 2002 * 300);
    }

    private static void cookInNoWard() {
        Town x = new Town();
        for (int ward = 0; ward <= 5; ward++) {
            x.store(ward, 300);
        }
        for (int ward : outside(0, 5)) {
            due("ward " + ward, x.cook(ward, 1), NONE);
        }
        for (int ward = 0; ward <= 5; ward++) {
            due("ward " + ward, x.cook(ward, 1), 1);
        }
    }

    private static void notSoMuch() {
        Town x = new Town();
        due("nothing", x.cook(0, 1), NONE);
        x.store(0, 299);
        due("299", x.cook(0, 1), NONE);
        x.store(0, 1);
        due("300 for 2", x.cook(0, 2), NONE);
        due("300 for 1", x.cook(0, 1), 1);
        due("nothing", x.cook(0, 1), NONE);
        for (int i = 0; i < 5; i++) {
            x.store(0, 100000);
        }
        x.store(0, 99999);
        due("599999 for 2000", x.cook(0, 2000), NONE);
        due("nothing was taken", x.ward(0, 0), 599999);
        due("no bowl came", x.ward(0, 1), 1);
        x.store(0, 1);
        due("600000 for 2000", x.cook(0, 2000), 2001);
        due("none stays", x.ward(0, 0), 0);
    }

    private static void noneSuchGiven() {
        Town x = new Town().home(0, 0, 1).bowls(0, 9);
        due("no card came", x.show(0), NONE);
        x.giver(40).handed(1, 0).handed(3, 0);
        for (int card : outside(0, 3)) {
            due("card " + card, x.show(card), NONE);
        }
        due("a free one", x.show(0), NONE);
        due("it is free yet", x.card(0, 0), 0);
        x.lose(1);
        due("a lost one that was given", x.show(1), NONE);
        x.lose(2);
        due("a lost one that was free", x.show(2), NONE);
        due("they are lost yet", x.count(6), 2);
        due("no doubles", x.count(7), 0);
        due("the last one", x.show(3), 1);
    }

    private static void doubleOfAUsedOne() {
        Town x = new Town().giver(20).home(0, 0, 1).home(0, 0, 1).bowls(0, 9).handed(0, 0).handed(1, 1);
        x.show(0);
        for (int i = 1; i <= 3; i++) {
            due("shown again", x.show(0), NONE);
            due("of the card", x.card(0, 5), i);
            due("in all", x.count(7), i);
        }
        x.show(1);
        x.show(1);
        due("of the other card", x.card(1, 5), 1);
        due("in all", x.count(7), 4);
        due("used ones", x.count(5), 2);
        due("eaten", x.ward(0, 3), 2);
        due("used ones of the giver", x.gave(0, 2), 2);
    }

    private static void fedInThisWeek() {
        Town x = new Town().giver(30).home(0, 0, 1).bowls(0, 9).handed(0, 0).handed(1, 0).handed(2, 0);
        due("not fed in week 0", x.told(0, 5), 0);
        due("fed", x.show(0), 1);
        due("again", x.show(1), NONE);
        due("given yet", x.card(1, 0), 1);
        x.go(0);
        due("no week ended", x.show(1), NONE);
        x.go(1);
        x.bowls(0, 9);
        due("in the next week", x.show(1), 1);
        due("again", x.show(2), NONE);
        due("8 are there", x.ward(0, 1), 8);
    }

    private static void nothingDue() {
        Town x = new Town().giver(20).home(0, 0, 4).pass(0, 105010).bowls(0, 9).handed(0, 0);
        x.look(0, 4);
        due("nothing", x.show(0), 0);
        due("again", x.show(0), 0);
        due("it is given yet", x.card(0, 0), 1);
        due("to its house", x.card(0, 2), 0);
        due("not used in a week", x.card(0, 3), NONE);
        due("not fed", x.told(0, 5), 0);
        due("no double", x.count(7), 0);
        due("all are there", x.ward(0, 1), 9);
        x.look(0, 5);
        due("as something is due", x.show(0), 4);
        Town zero = new Town().giver(20).home(0, 0, 4).pass(0, 90099).handed(0, 0);
        due("by a rule of nothing", zero.show(0), 0);
    }

    private static void notSoManyBowls() {
        Town x = new Town().giver(20).home(0, 0, 4).handed(0, 0).bowls(1, 9);
        due("none", x.show(0), NONE);
        x.bowls(0, 3);
        due("3 of 4", x.show(0), NONE);
        due("given yet", x.card(0, 0), 1);
        due("3 are there", x.ward(0, 1), 3);
        due("not fed", x.told(0, 5), 0);
        x.bowls(0, 1);
        due("4 of 4", x.show(0), 4);
    }

    private static void used() {
        Town x = new Town().giver(20).home(2, 0, 4).handed(1, 0).until(6);
        x.bowls(2, 5);
        due("how many", x.show(1), 4);
        due("used", x.card(1, 0), 2);
        due("its week", x.card(1, 3), 6);
        due("its bowls", x.card(1, 4), 4);
        due("its house", x.card(1, 2), 0);
        due("fed", x.told(0, 5), 1);
        due("bowls of the house", x.told(0, 4), 4);
        due("used ones of the giver", x.gave(0, 2), 1);
        due("bowls of the giver", x.gave(0, 3), 4);
        due("there", x.ward(2, 1), 1);
        due("eaten", x.ward(2, 3), 4);
        due("used ones", x.count(5), 1);
    }

    private static void theFirstOfThese() {
        Town x = new Town().giver(30).home(0, 0, 4).pass(0, 105010).handed(0, 0).handed(1, 0);
        x.look(0, 4);
        due("nothing is due, and no bowls: 0", x.show(0), 0);
        x.look(0, 5);
        due("something is due, and no bowls: NONE", x.show(0), NONE);
        x.bowls(0, 4);
        due("fed", x.show(0), 4);
        x.look(0, 4);
        due("fed, and nothing is due: NONE", x.show(1), NONE);
        due("used, and nothing is due: NONE", x.show(0), NONE);
        due("used, and fed: a double", x.card(0, 5), 1);
        due("free, and nothing is due: NONE", x.show(2), NONE);
        x.lose(1);
        due("lost, and nothing is due: NONE", x.show(1), NONE);
        x.go(1);
        due("used, not fed, nothing is due: NONE", x.show(0), NONE);
        due("a double", x.card(0, 5), 2);
    }

    private static void weeksEnd() {
        int[] steps = {0, 1, 2, 59, 60, 0, 60};
        Town x = new Town();
        int now = 0;
        for (int step : steps) {
            now += step;
            due("go " + step, x.go(step), now);
            due("NOW", x.count(0), now);
        }
        Town each = new Town().giver(10).home(0, 0, 9).home(0, 0, 1).bowls(0, 3).pass(60, 210010);
        each.frost(5);
        due("go 60", each.go(60), 60);
        due("a free card was pooled on the way", each.card(0, 0), 1);
        due("bowls are left", each.ward(0, 2), 3);
        due("frost is over, and the rule of week 60 is in force", each.forecast(0), 20);
        Town none = new Town().giver(10).home(0, 0, 9).home(0, 0, 1).bowls(0, 3).until(3);
        none.bowls(0, 2);
        none.frost(5);
        due("go 0", none.go(0), 3);
        due("no card is pooled", none.card(0, 0), 0);
        due("bowls are there", none.ward(0, 1), 2);
        due("frost stays", none.forecast(0), 15);
    }

    private static void lastWeek() {
        Town x = new Town().home(0, 0, 1).until(1039).giver(10).bowls(0, 2);
        due("60 from week 1039", x.go(60), LAST_WEEK);
        due("that one ended", x.ward(0, 2), 2);
        due("cards were pooled", x.card(0, 0), 1);
        due("60 more", x.go(60), LAST_WEEK);
        due("1 more", x.go(1), LAST_WEEK);
        due("0 more", x.go(0), LAST_WEEK);
        due("NOW", x.count(0), LAST_WEEK);
        due("just 60", new Town().until(980).go(60), LAST_WEEK);
        due("one less", new Town().until(980).go(59), 1039);
        due("one too many", new Town().until(981).go(60), LAST_WEEK);
        x.bowls(0, 1);
        due("a house can be fed in it", x.show(0), 1);
        due("the week", x.card(0, 3), LAST_WEEK);
        due("a look can be made in it", x.look(0, 5), true);
        due("the week", x.told(0, 2), LAST_WEEK);
    }

    private static void anotherN() {
        Town x = new Town();
        for (int n : outside(0, 60)) {
            due("go " + n, x.go(n), NONE);
        }
        due("NOW", x.count(0), 0);
        x.until(LAST_WEEK);
        for (int n : outside(0, 60)) {
            due("go " + n + " in the last week", x.go(n), NONE);
        }
        due("NOW", x.count(0), LAST_WEEK);
    }

    // ---- promises 18 to 20

    private static void visitors() {
        sentence("18: A VISITOR comes: the number; NONE if 4 came", PromiseEdgesTest::visitorNumbers);
        sentence("18: NONE if there is no such WARD or PLACE", PromiseEdgesTest::visitorOfNoPlace);
        sentence("18: NONE if that can't be (how many)", PromiseEdgesTest::visitorOfSoMany);
        sentence("19: The VISITOR of a HOUSE by the best way", PromiseEdgesTest::visitorOfAHouse);
        sentence("19: NONE if none", PromiseEdgesTest::noVisitor);
        sentence("19: NONE if it can't be asked", PromiseEdgesTest::visitsNotToAsk);
        sentence("20: The sum of how far PLACES are by it for a WARD", PromiseEdgesTest::sumOfWays);
        sentence("20: NONE if it can't be asked", PromiseEdgesTest::farNotToAsk);
    }

    private static void visitorNumbers() {
        Town x = new Town();
        for (int i = 0; i < 4; i++) {
            due("the number", x.visitor(i, i, i + 1), i);
        }
        for (int ward = 0; ward <= 5; ward++) {
            due("4 came", x.visitor(ward, 0, 1), NONE);
        }
        x.home(3, 3, 1).home(4, 0, 1);
        due("the last one is there", x.visits(0), 3);
        due("the fifth isn't", x.visits(1), NONE);
    }

    private static void visitorOfNoPlace() {
        Town x = new Town();
        for (int ward : outside(0, 5)) {
            due("ward " + ward, x.visitor(ward, 0, 1), NONE);
        }
        for (int place : outside(0, 99)) {
            due("place " + place, x.visitor(0, place, 1), NONE);
        }
        due("ward 0, place 0", x.visitor(0, 0, 1), 0);
        due("ward 5, place 99", x.visitor(5, 99, 1), 1);
        x.home(5, 0, 1).home(0, 99, 1);
        due("from 99 to 0", x.far(5), 99);
        due("from 0 to 99", x.far(0), 99);
    }

    private static void visitorOfSoMany() {
        Town x = new Town();
        for (int many : outside(1, 8)) {
            due("many " + many, x.visitor(0, 0, many), NONE);
        }
        due("many 0", x.visitor(0, 0, 0), NONE);
        due("many 9", x.visitor(0, 0, 9), NONE);
        due("many 1", x.visitor(0, 0, 1), 0);
        due("many 8", x.visitor(0, 0, 8), 1);
    }

    private static void visitorOfAHouse() {
        Town x = new Town().home(0, 10, 1).home(0, 80, 1).home(0, 45, 1);
        x.visitor(0, 90, 1);
        x.visitor(1, 45, 8);
        x.visitor(0, 0, 2);
        due("10: 10 far", x.visits(0), 2);
        due("80: 10 far", x.visits(1), 0);
        due("45: 45 far", x.visits(2), 2);
        due("asked again", x.visits(0), 2);
        due("sum", x.far(0), 65);
        x.visitor(0, 46, 1);
        due("45: 1 far", x.visits(2), 3);
        due("the first as before", x.visits(0), 2);
    }

    private static void noVisitor() {
        Town x = new Town().home(0, 10, 1).home(0, 20, 1);
        due("none came", x.visits(0), NONE);
        x.visitor(1, 10, 8);
        due("none of that ward", x.visits(0), NONE);
        x.visitor(0, 20, 1);
        due("none for the farther one", x.visits(0), NONE);
        due("one for the nearer one", x.visits(1), 1);
    }

    private static void visitsNotToAsk() {
        Town x = new Town();
        due("no house came", x.visits(0), NONE);
        x.visitorAtWard();
        due("no house came", x.visits(0), NONE);
        for (int i = 0; i < 6; i++) {
            x.home(0, i, 1);
        }
        for (int house : outside(0, 5)) {
            due("house " + house, x.visits(house), NONE);
        }
        due("the first", x.visits(0), 0);
        due("the last", x.visits(5), 0);
        x.home(0, 6, 1);
        due("seven", x.visits(5), NONE);
        x.look(6, 0);
        due("it has a look, beside six without one", x.visits(6), NONE);
        due("one of the six", x.visits(5), 0);
        for (int i = 0; i < 6; i++) {
            x.look(i, 9);
        }
        due("all have a look", x.visits(5), NONE);
    }

    private static void sumOfWays() {
        Town x = new Town().home(3, 50, 1);
        due("no visitor: none is visited", x.far(3), 0);
        x.visitor(3, 50, 1);
        due("at the same place", x.far(3), 0);
        x.home(3, 99, 1);
        due("the nearer one", x.far(3), 0);
        x.visitor(3, 0, 1);
        due("50 and 49, or none and 99", x.far(3), 99);
        due("the first of like ones", x.visits(0), 0);
        x.visitor(3, 98, 1);
        due("one way each", x.far(3), 1);
        due("another ward", x.far(2), NONE);
    }

    private static void farNotToAsk() {
        Town x = new Town().visitorAtWard();
        for (int ward = 0; ward <= 5; ward++) {
            due("no house in " + ward, x.far(ward), NONE);
        }
        for (int i = 0; i < 7; i++) {
            x.home(0, 1, 1);
            due((i + 1) + " houses", x.far(0), i < 6 ? i + 1 : NONE);
        }
        for (int ward : outside(0, 5)) {
            due("ward " + ward, x.far(ward), NONE);
        }
        x.look(3, 3);
        due("six again", x.far(0), 6);
        for (int i = 0; i < 7; i++) {
            x.look(i, 3);
        }
        due("none without a look", x.far(0), NONE);
    }

    // ---- promises 21 to 23

    private static void books() {
        sentence("21: An ENTRY: its number; NONE if 60 came", PromiseEdgesTest::entryNumbers);
        sentence("21: Marks are five digits (zeros ahead); NONE if they can't be", PromiseEdgesTest::fiveDigits);
        sentence("21: NONE if there is no such CHARITY", PromiseEdgesTest::noSuchCharity);
        sentence("22: Two ENTRIES: 0 two, 1 the SAME, 2 in DOUBT", PromiseEdgesTest::howLike);
        sentence("22: NONE if there is none such", PromiseEdgesTest::likeNoneSuch);
        sentence("22: NONE if both are one, or of one CHARITY", PromiseEdgesTest::bothAreOne);
        sentence("23: The least ENTRY with which one is JOINED", PromiseEdgesTest::leastJoined);
        sentence("23: itself, if it is with none", PromiseEdgesTest::joinedWithNone);
        sentence("23: NONE if there is none such", PromiseEdgesTest::joinedNoneSuch);
    }

    private static void entryNumbers() {
        Town x = new Town();
        for (int i = 0; i < 60; i++) {
            due("its number", x.entry(i % 6, 99999), i);
            due("none behind it yet", x.joined(i + 1), NONE);
        }
        for (int charity = 0; charity <= 5; charity++) {
            due("60 came", x.entry(charity, 11111), NONE);
        }
        due("the last is there", x.joined(59), 59);
        due("60 are there", x.count(9), 60);
    }

    private static void fiveDigits() {
        Town x = new Town();
        for (int marks : outside(0, 99999)) {
            due("marks " + marks, x.entry(0, marks), NONE);
        }
        due("a negative one", x.entry(0, -11111), NONE);
        due("six digits", x.entry(0, 111111), NONE);
        due("none came", x.count(9), 0);
        x.entry(0, 0);
        x.entry(1, 999);
        x.entry(2, 99000);
        x.entry(3, 1);
        x.entry(4, 99999);
        x.entry(5, 9999);
        due("00000 and 00999", x.same(0, 1), 2);
        due("00000 and 99000", x.same(0, 2), 1);
        due("00999 and 99000", x.same(1, 2), 0);
        due("00000 and 00001", x.same(0, 3), 0);
        due("00001 and 00999", x.same(3, 1), 2);
        due("00000 and 99999", x.same(0, 4), 0);
        due("00000 and 09999", x.same(0, 5), 2);
        due("09999 and 99000", x.same(5, 2), 0);
    }

    private static void noSuchCharity() {
        Town x = new Town();
        for (int charity : outside(0, 5)) {
            due("charity " + charity, x.entry(charity, 11111), NONE);
        }
        due("none came", x.count(9), 0);
        due("the first", x.entry(0, 11111), 0);
        due("the last", x.entry(5, 11111), 1);
        due("they are two", x.same(0, 1), 1);
    }

    private static void howLike() {
        Town x = new Town();
        x.entry(0, 12345);
        x.entry(1, 12399);
        x.entry(2, 12999);
        x.entry(3, 19999);
        x.entry(4, 99999);
        x.entry(5, 12346);
        int[] with0 = {NONE, 1, 2, 2, 0, 0};
        int[] with1 = {1, NONE, 2, 2, 0, 1};
        for (int i = 0; i < with0.length; i++) {
            due("0 and " + i, x.same(0, i), with0[i]);
            due(i + " and 0", x.same(i, 0), with0[i]);
            due("1 and " + i, x.same(1, i), with1[i]);
            due(i + " and 1", x.same(i, 1), with1[i]);
        }
    }

    private static void likeNoneSuch() {
        Town x = new Town();
        due("none came", x.same(0, 1), NONE);
        x.entry(0, 11111);
        due("one came", x.same(0, 1), NONE);
        due("one came", x.same(1, 0), NONE);
        x.entry(1, 11111);
        for (int entry : outside(0, 1)) {
            due("0 and " + entry, x.same(0, entry), NONE);
            due(entry + " and 1", x.same(entry, 1), NONE);
            due(entry + " and itself", x.same(entry, entry), NONE);
        }
        due("two came", x.same(1, 0), 1);
    }

    private static void bothAreOne() {
        Town x = new Town();
        x.entry(4, 11111);
        x.entry(4, 11111);
        x.entry(4, 22222);
        x.entry(3, 11111);
        due("both are one", x.same(0, 0), NONE);
        due("both are the last", x.same(3, 3), NONE);
        due("of one charity, alike", x.same(0, 1), NONE);
        due("of one charity, not alike", x.same(2, 0), NONE);
        due("of two", x.same(0, 3), 1);
        due("joined through another: of one charity yet", x.same(0, 1), NONE);
    }

    private static void leastJoined() {
        Town x = new Town();
        x.entry(0, 22222);
        x.entry(1, 11199);
        x.entry(2, 33333);
        x.entry(3, 11199);
        due("the first of two", x.joined(1), 1);
        due("the second of two", x.joined(3), 1);
        x.entry(4, 99111);
        due("apart yet", x.joined(4), 4);
        x.entry(5, 11111);
        due("with 1 and 4", x.joined(5), 1);
        due("4 through 5", x.joined(4), 1);
        due("0 with none", x.joined(0), 0);
        due("2 with none", x.joined(2), 2);
        x.entry(0, 33399);
        due("with 2", x.joined(6), 2);
    }

    private static void joinedWithNone() {
        Town x = new Town();
        x.entry(0, 11111);
        due("the only one", x.joined(0), 0);
        x.entry(0, 11111);
        due("of one charity", x.joined(1), 1);
        x.entry(1, 11999);
        due("in doubt", x.joined(2), 2);
        x.entry(2, 11112);
        due("two", x.joined(3), 3);
        x.entry(3, 99999);
        due("nothing known", x.joined(4), 4);
    }

    private static void joinedNoneSuch() {
        Town x = new Town();
        due("none came", x.joined(0), NONE);
        x.entry(0, 11111);
        x.entry(1, 11111);
        for (int entry : outside(0, 1)) {
            due("entry " + entry, x.joined(entry), NONE);
        }
        due("the last", x.joined(1), 0);
    }

    // ---- promises 24 to 28

    private static void whatIsTold() {
        sentence("24: 0 how it is, 1 its SUBSCRIBER, 2 its HOUSE (NONE), 3 the WEEK (NONE), 4 BOWLS (0), 5 DOUBLE",
            PromiseEdgesTest::ofACard);
        sentence("24: NONE for others, or if there is none such", PromiseEdgesTest::ofNoCard);
        sentence("25: 0 WARD, 1 NEED by the latest LOOK (NONE), 2 its WEEK (NONE)", PromiseEdgesTest::ofAHouse);
        sentence("25: 3 CARDS got ever, 4 BOWLS ever", PromiseEdgesTest::everOfAHouse);
        sentence("25: 5 whether it was fed in this WEEK", PromiseEdgesTest::whetherFed);
        sentence("25: NONE for others, or if there is none such", PromiseEdgesTest::ofNoHouse);
        sentence("26: 0 COINS ever, 1 CARDS ever, 2 of these USED, 3 BOWLS by these", PromiseEdgesTest::ofAGiver);
        sentence("26: NONE for others, or if there is none such", PromiseEdgesTest::ofNoGiver);
        sentence("27: 0 grams, 1 BOWLS there, 2 LEFT ever, 3 eaten ever", PromiseEdgesTest::ofAWard);
        sentence("27: NONE for others, or if there is none such", PromiseEdgesTest::ofNoWard);
        sentence("28: 0 NOW, 1 SUBSCRIBERS, 2 HOUSES, 3 CARDS, .. 9 ENTRIES", PromiseEdgesTest::counts);
        sentence("28: 4 free, 5 USED, 6 lost, 7 DOUBLES", PromiseEdgesTest::countsOfCards);
        sentence("28: 8 RULES passed", PromiseEdgesTest::countOfRules);
        sentence("28: NONE for others", PromiseEdgesTest::otherCounts);
    }

    private static void checkCard(Town x, int card, int... want) {
        for (int what = 0; what < want.length; what++) {
            due("card " + card + ", what " + what, x.card(card, what), want[what]);
        }
    }

    private static void ofACard() {
        Town x = new Town().giver(10).giver(20).home(0, 0, 1).home(0, 0, 3);
        checkCard(x, 0, 0, 0, NONE, NONE, 0, 0);
        checkCard(x, 2, 0, 1, NONE, NONE, 0, 0);
        x.handed(2, 1).until(2);
        checkCard(x, 2, 1, 1, 1, NONE, 0, 0);
        x.bowls(0, 5);
        x.show(2);
        checkCard(x, 2, 2, 1, 1, 2, 3, 0);
        x.show(2);
        x.until(3);
        x.show(2);
        checkCard(x, 2, 2, 1, 1, 2, 3, 2);
        x.lose(0);
        checkCard(x, 0, 3, 0, NONE, NONE, 0, 0);
        x.until(4);
        checkCard(x, 1, 1, 1, 0, NONE, 0, 0);
        Town first = new Town().giver(10).home(0, 0, 1).bowls(0, 1).handed(0, 0);
        first.show(0);
        checkCard(first, 0, 2, 0, 0, 0, 1, 0);
    }

    private static void ofNoCard() {
        Town x = new Town();
        for (int what = 0; what <= 5; what++) {
            due("no card came", x.card(0, what), NONE);
        }
        x.giver(20).home(0, 0, 1).bowls(0, 1).handed(0, 0);
        x.show(0);
        for (int what : outside(0, 5)) {
            due("what " + what, x.card(0, what), NONE);
        }
        for (int card : outside(0, 1)) {
            due("card " + card, x.card(card, 0), NONE);
            due("card " + card, x.card(card, 5), NONE);
        }
        Town full = new Town().giver(4000);
        due("card 399", full.card(399, 0), 0);
        due("card 400", full.card(400, 0), NONE);
    }

    private static void ofAHouse() {
        Town x = new Town().home(5, 0, 1).home(0, 0, 1);
        due("ward", x.told(0, 0), 5);
        due("ward", x.told(1, 0), 0);
        due("no look", x.told(0, 1), NONE);
        due("no week", x.told(0, 2), NONE);
        x.look(0, 0);
        due("need", x.told(0, 1), 0);
        due("week", x.told(0, 2), 0);
        x.until(2);
        x.look(0, 9);
        x.look(0, 3);
        due("the latest", x.told(0, 1), 3);
        due("its week", x.told(0, 2), 2);
        due("not of the other", x.told(1, 1), NONE);
        x.until(LAST_WEEK);
        due("though it holds no more", x.told(0, 1), 3);
        due("its week", x.told(0, 2), 2);
    }

    private static void everOfAHouse() {
        Town x = new Town().giver(50).home(0, 0, 2).home(0, 0, 3);
        due("none got", x.told(0, 3), 0);
        due("no bowls", x.told(0, 4), 0);
        x.handed(0, 0).handed(1, 0).handed(2, 1).bowls(0, 9);
        x.show(0);
        x.show(0);
        x.show(2);
        due("two got, one used", x.told(0, 3), 2);
        due("bowls", x.told(0, 4), 2);
        due("bowls of the other", x.told(1, 4), 3);
        x.until(4);
        due("one of the pool", x.told(0, 3), 3);
        due("one of the pool", x.told(1, 3), 2);
        x.bowls(0, 9);
        x.show(1);
        due("bowls of both weeks", x.told(0, 4), 4);
        due("used ones are got ones yet", x.told(0, 3), 3);
    }

    private static void whetherFed() {
        Town x = new Town().giver(20).home(0, 0, 2).home(0, 0, 3).bowls(0, 9).handed(0, 0).handed(1, 0);
        due("not in week 0", x.told(0, 5), 0);
        x.show(0);
        due("fed", x.told(0, 5), 1);
        due("the other isn't", x.told(1, 5), 0);
        x.show(1);
        due("but once", x.told(0, 5), 1);
        x.go(0);
        due("in this week yet", x.told(0, 5), 1);
        x.go(1);
        due("not in the next", x.told(0, 5), 0);
        x.bowls(0, 2);
        x.show(1);
        due("fed again", x.told(0, 5), 1);
    }

    private static void ofNoHouse() {
        Town x = new Town();
        for (int what = 0; what <= 5; what++) {
            due("no house came", x.told(0, what), NONE);
        }
        x.home(1, 0, 1).home(2, 0, 1);
        x.look(0, 4);
        for (int what : outside(0, 5)) {
            due("what " + what, x.told(0, what), NONE);
        }
        for (int house : outside(0, 1)) {
            due("house " + house, x.told(house, 0), NONE);
            due("house " + house, x.told(house, 5), NONE);
        }
        due("the last", x.told(1, 0), 2);
    }

    private static void checkGiver(Town x, int subscriber, int... want) {
        for (int what = 0; what < want.length; what++) {
            due("subscriber " + subscriber + ", what " + what, x.gave(subscriber, what), want[what]);
        }
    }

    private static void ofAGiver() {
        Town x = new Town().giver(0).giver(9).giver(39).home(0, 0, 2).home(0, 0, 3).bowls(0, 5);
        checkGiver(x, 0, 0, 0, 0, 0);
        checkGiver(x, 1, 9, 0, 0, 0);
        checkGiver(x, 2, 39, 3, 0, 0);
        x.give(1, 1);
        checkGiver(x, 1, 10, 1, 0, 0);
        x.handed(0, 0).handed(1, 1).handed(2, 0).handed(3, 1);
        x.show(0);
        x.show(1);
        x.show(1);
        x.show(2);
        checkGiver(x, 2, 39, 3, 2, 5);
        x.lose(2);
        checkGiver(x, 2, 39, 3, 2, 5);
        x.go(1);
        x.bowls(0, 3);
        x.show(3);
        checkGiver(x, 1, 10, 1, 1, 3);
        checkGiver(x, 2, 39, 3, 2, 5);
        checkGiver(x, 0, 0, 0, 0, 0);
    }

    private static void ofNoGiver() {
        Town x = new Town();
        for (int what = 0; what <= 3; what++) {
            due("none came", x.gave(0, what), NONE);
        }
        x.giver(15).giver(25);
        for (int what : outside(0, 3)) {
            due("what " + what, x.gave(0, what), NONE);
        }
        for (int subscriber : outside(0, 1)) {
            due("subscriber " + subscriber, x.gave(subscriber, 0), NONE);
            due("subscriber " + subscriber, x.gave(subscriber, 3), NONE);
        }
        due("the last", x.gave(1, 0), 25);
    }

    private static void checkWard(Town x, int ward, int... want) {
        for (int what = 0; what < want.length; what++) {
            due("ward " + ward + ", what " + what, x.ward(ward, what), want[what]);
        }
    }

    private static void ofAWard() {
        Town x = new Town().giver(20).home(5, 0, 2).handed(0, 0).handed(1, 0);
        checkWard(x, 5, 0, 0, 0, 0);
        x.store(5, 3000);
        checkWard(x, 5, 3000, 0, 0, 0);
        x.cook(5, 6);
        checkWard(x, 5, 1200, 6, 0, 0);
        x.show(0);
        checkWard(x, 5, 1200, 4, 0, 2);
        x.go(1);
        checkWard(x, 5, 1200, 0, 4, 2);
        x.cook(5, 4);
        x.show(1);
        checkWard(x, 5, 0, 2, 4, 4);
        x.go(1);
        checkWard(x, 5, 0, 0, 6, 4);
        checkWard(x, 0, 0, 0, 0, 0);
        checkWard(x, 4, 0, 0, 0, 0);
    }

    private static void ofNoWard() {
        Town x = new Town().bowls(0, 3).bowls(5, 3);
        for (int what : outside(0, 3)) {
            due("what " + what, x.ward(0, what), NONE);
            due("what " + what, x.ward(5, what), NONE);
        }
        for (int ward : outside(0, 5)) {
            due("ward " + ward, x.ward(ward, 0), NONE);
            due("ward " + ward, x.ward(ward, 3), NONE);
        }
        due("the first", x.ward(0, 1), 3);
        due("the last", x.ward(5, 1), 3);
    }

    private static void counts() {
        Town x = new Town();
        x.go(7);
        due("NOW", x.count(0), 7);
        due("nothing else", x.count(1) + x.count(2) + x.count(3) + x.count(9), 0);
        x.giver(0).giver(0);
        due("subscribers", x.count(1), 2);
        x.home(0, 0, 1).home(0, 0, 1).home(0, 0, 1);
        due("houses", x.count(2), 3);
        x.give(1, 49);
        due("cards", x.count(3), 4);
        x.entry(0, 0);
        x.entry(0, 0);
        x.entry(0, 0);
        x.entry(0, 0);
        x.entry(0, 0);
        due("entries", x.count(9), 5);
        int[] want = {7, 2, 3, 4, 4, 0, 0, 0, 0, 5};
        for (int what = 0; what < want.length; what++) {
            due("count " + what, x.count(what), want[what]);
        }
    }

    private static void checkCards(Town x, int free, int used, int lost, int doubles) {
        due("free", x.count(4), free);
        due("used", x.count(5), used);
        due("lost", x.count(6), lost);
        due("doubles", x.count(7), doubles);
    }

    private static void countsOfCards() {
        Town x = new Town().giver(60).home(0, 0, 1).home(0, 0, 1).bowls(0, 9);
        checkCards(x, 6, 0, 0, 0);
        x.handed(0, 0).handed(1, 1).handed(2, 0);
        checkCards(x, 3, 0, 0, 0);
        x.show(0);
        x.show(1);
        checkCards(x, 3, 2, 0, 0);
        x.show(0);
        x.show(1);
        x.show(1);
        checkCards(x, 3, 2, 0, 3);
        x.lose(2);
        checkCards(x, 3, 2, 1, 3);
        x.lose(3);
        checkCards(x, 2, 2, 2, 3);
        x.go(3);
        checkCards(x, 2, 2, 2, 3);
        x.go(1);
        checkCards(x, 0, 2, 2, 3);
        due("all", x.count(3), 6);
        Town full = new Town().giver(4000).home(0, 0, 1);
        checkCards(full, 400, 0, 0, 0);
        full.lose(399);
        checkCards(full, 399, 0, 1, 0);
        full.go(4);
        checkCards(full, 0, 0, 1, 0);
        due("got", full.told(0, 3), 399);
    }

    private static void countOfRules() {
        Town x = new Town().giver(1);
        x.propose(0, 110010);
        due("one open", x.count(8), 0);
        x.close();
        due("one not passed", x.count(8), 0);
        x.pass(LAST_WEEK, 110010);
        due("one passed, not in force yet", x.count(8), 1);
        x.pass(0, 110010);
        x.pass(0, 110010);
        due("like ones too", x.count(8), 3);
    }

    private static void otherCounts() {
        Town x = new Town().giver(10).home(0, 0, 1);
        for (int what : outside(0, 9)) {
            due("count " + what, x.count(what), NONE);
        }
        due("count 10", x.count(10), NONE);
        due("count -1", x.count(-1), NONE);
    }
}
