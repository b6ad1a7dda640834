/** The sentences of 'Terms' that name a boundary case, each with a test of its own. */
public final class TermsEdgesTest extends Checks {
    private static final int LAST_WEEK = 1040;

    public static void main(String[] args) {
        peopleAndCards();
        rules();
        kitchens();
        visitors();
        books();
        end();
    }

    // ==== 1.

    private static void peopleAndCards() {
        sentence("WEEKS are 0 .. 1040; NOW is one (0 at first)", TermsEdgesTest::weeks);
        sentence("WARDS are 0 .. 5", TermsEdgesTest::wards);
        sentence("WARDS, each with a KITCHEN", TermsEdgesTest::eachWardHasItsKitchen);
        sentence("SUBSCRIBERS have numbers as they come, at most 20", TermsEdgesTest::twentySubscribers);
        sentence("For each 10 COINS that one gives a CARD comes", TermsEdgesTest::tenCoinsACard);
        sentence("CARDS: at most 400", TermsEdgesTest::fourHundredCards);
        sentence("CARDS: numbers as they come", TermsEdgesTest::cardsByNumbers);
        sentence("a CARD comes, GIVEN to nobody yet", TermsEdgesTest::cardOfNobody);
        sentence("what is below 10 stays for the next time", TermsEdgesTest::restOfCoins);
        sentence("HOUSES have numbers as they come, at most 30", TermsEdgesTest::thirtyHouses);
        sentence("a PLACE (0 .. 99 on the ward's road)", TermsEdgesTest::places);
        sentence("GROWN (1 .. 9) and CHILDREN (0 .. 9)", TermsEdgesTest::folk);
        sentence("A LOOK at a HOUSE tells its NEED (0 .. 9)", TermsEdgesTest::needs);
        sentence("KNOWN from the WEEK on in which it is made", TermsEdgesTest::knownFromItsWeekOn);
        sentence("A CARD is free (0), GIVEN to a HOUSE (1), USED (2), or lost (3)", TermsEdgesTest::cardStates);
    }

    private static void weeks() {
        Town x = new Town().giver(10);
        due("NOW of a new one", x.count(0), 0);
        x.until(1039);
        due("week 1039", x.count(0), 1039);
        due("the last week", x.go(1), LAST_WEEK);
        due("none behind it", x.go(1), LAST_WEEK);
        due("NOW", x.count(0), LAST_WEEK);
        Town rule = new Town();
        for (int week : outside(0, LAST_WEEK)) {
            due("a rule from " + week, rule.propose(week, 110010), false);
        }
        for (int week : new int[] {0, 1, 1039, LAST_WEEK}) {
            due("a rule from " + week, rule.propose(week, 110010), true);
            rule.close();
        }
    }

    private static void wards() {
        for (int ward = 0; ward <= 5; ward++) {
            Town x = new Town();
            due("visitor of " + ward, x.visitor(ward, 7, 1), 0);
            due("house of " + ward, x.house(ward, 5, 30), 0);
            due("its ward", x.told(0, 0), ward);
            due("forecast of " + ward, x.forecast(ward), 3);
            due("far of " + ward, x.far(ward), 2);
            due("store of " + ward, x.store(ward, 700), 700);
            due("cook in " + ward, x.cook(ward, 1), 1);
            due("grams of " + ward, x.ward(ward, 0), 400);
        }
        Town x = new Town();
        for (int ward : outside(0, 5)) {
            due("house of " + ward, x.house(ward, 5, 30), NONE);
            due("visitor of " + ward, x.visitor(ward, 7, 1), NONE);
            due("forecast of " + ward, x.forecast(ward), NONE);
            due("far of " + ward, x.far(ward), NONE);
            due("store of " + ward, x.store(ward, 700), NONE);
            due("cook in " + ward, x.cook(ward, 1), NONE);
            due("ward " + ward, x.ward(ward, 0), NONE);
        }
    }

    private static void eachWardHasItsKitchen() {
        Town x = new Town().giver(60);
        for (int ward = 0; ward <= 5; ward++) {
            x.home(ward, 0, ward + 1).handed(ward, ward);
            due("store", x.store(ward, 10000 + ward), 10000 + ward);
        }
        for (int ward = 0; ward <= 5; ward++) {
            due("cook", x.cook(ward, 10 + ward), 10 + ward);
            due("eat", x.show(ward), ward + 1);
        }
        for (int ward = 0; ward <= 5; ward++) {
            due("grams", x.ward(ward, 0), 7000 - 299 * ward);
            due("bowls", x.ward(ward, 1), 9);
            due("eaten", x.ward(ward, 3), ward + 1);
        }
        due("cook in ward 3 alone", x.cook(3, 1), 10);
        x.go(1);
        for (int ward = 0; ward <= 5; ward++) {
            due("left of ward " + ward, x.ward(ward, 2), ward == 3 ? 10 : 9);
        }
    }

    private static void twentySubscribers() {
        Town x = new Town();
        for (int i = 0; i < 20; i++) {
            due("there are", x.count(1), i);
            due("subscriber", x.subscriber(), i);
        }
        due("the 21st", x.subscriber(), NONE);
        due("once more", x.subscriber(), NONE);
        due("there are", x.count(1), 20);
        due("the last one is there", x.gave(19, 0), 0);
        due("and none behind it", x.gave(20, 0), NONE);
    }

    private static void tenCoinsACard() {
        for (int coins : new int[] {1, 9, 10, 11, 19, 20, 99, 100, 101, 990, 999, 1000}) {
            Town x = new Town();
            x.subscriber();
            due("cards for " + coins, x.give(0, coins), coins / 10);
            due("cards there", x.count(3), coins / 10);
            due("cards of the giver", x.gave(0, 1), coins / 10);
            due("coins of the giver", x.gave(0, 0), coins);
        }
    }

    private static void fourHundredCards() {
        Town x = new Town().giver(3990);
        due("399 are there", x.count(3), 399);
        due("two more", x.give(0, 20), NONE);
        due("one more", x.give(0, 10), 1);
        due("400 are there", x.count(3), 400);
        due("the last is there", x.card(399, 0), 0);
        due("none is behind it", x.card(400, 0), NONE);
        due("another", x.give(0, 10), NONE);
        due("another at least coins", x.give(0, 19), NONE);
        due("coins that make no card", x.give(0, 9), 0);
        due("400 are there", x.count(3), 400);
    }

    private static void cardsByNumbers() {
        Town x = new Town().giver(20).giver(10).giver(9);
        x.give(0, 10);
        x.give(2, 11);
        int[] givers = {0, 0, 1, 0, 2, 2};
        for (int card = 0; card < givers.length; card++) {
            due("giver of card " + card, x.card(card, 1), givers[card]);
        }
        due("no further card", x.card(givers.length, 1), NONE);
    }

    private static void cardOfNobody() {
        Town x = new Town().home(0, 0, 1).giver(10);
        due("how it is", x.card(0, 0), 0);
        due("its house", x.card(0, 2), NONE);
        due("the house got none", x.told(0, 3), 0);
        due("free ones", x.count(4), 1);
    }

    private static void restOfCoins() {
        Town x = new Town().giver(9).giver(1);
        due("9 are no card, nor 1 of another", x.count(3), 0);
        due("9 and 1", x.give(0, 1), 1);
        due("nothing stayed: 9", x.give(0, 9), 0);
        due("9 and 9: 8 stay", x.give(0, 9), 1);
        due("8 and 1", x.give(0, 1), 0);
        due("9 and 1000: 9 stay", x.give(0, 1000), 100);
        due("9 and 1", x.give(0, 1), 1);
        due("the other has 1: and 8", x.give(1, 8), 0);
        due("9 and 11", x.give(1, 11), 2);
        due("nothing stayed: 9", x.give(1, 9), 0);
        due("the rest stays over weeks", x.go(9), 9);
        due("9 and 1", x.give(1, 1), 1);
    }

    private static void thirtyHouses() {
        Town x = new Town();
        for (int i = 0; i < 30; i++) {
            due("there are", x.count(2), i);
            due("house", x.house(i % 6, 99 - i, 10 + i), i);
        }
        due("the 31st", x.house(0, 0, 10), NONE);
        due("once more", x.house(5, 99, 99), NONE);
        due("there are", x.count(2), 30);
        due("the last one is there", x.due(29), 3 + 9);
        due("and none behind it", x.due(30), NONE);
    }

    private static void places() {
        for (int place = 0; place <= 99; place++) {
            Town x = new Town();
            due("house at " + place, x.house(0, place, 10), 0);
            due("visitor at 0", x.visitor(0, 0, 1), 0);
            due("how far it is", x.far(0), place);
            due("visitor at " + place, x.visitor(0, place, 1), 1);
            due("how far it is", x.far(0), 0);
        }
        Town x = new Town();
        for (int place : outside(0, 99)) {
            due("house at " + place, x.house(0, place, 10), NONE);
            due("visitor at " + place, x.visitor(0, place, 1), NONE);
        }
    }

    private static void folk() {
        for (int grown = 1; grown <= 9; grown++) {
            for (int children = 0; children <= 9; children++) {
                Town x = new Town().giver(1);
                due("house", x.house(0, 0, grown * 10 + children), 0);
                due("grown and children", x.due(0), grown + children);
                due("grown", x.pass(0, 100010).due(0), grown);
                due("children", x.pass(0, 10010).due(0), children);
            }
        }
        Town x = new Town();
        for (int children = 0; children <= 9; children++) {
            due("none grown", x.house(0, 0, children), NONE);
        }
        for (int folk : outside(10, 99)) {
            due("folk " + folk, x.house(0, 0, folk), NONE);
        }
        due("ten grown", x.house(0, 0, 109), NONE);
        due("none came", x.count(2), 0);
    }

    private static void needs() {
        Town x = new Town().home(0, 0, 1);
        for (int need = 0; need <= 9; need++) {
            due("look " + need, x.look(0, need), true);
            due("it tells", x.told(0, 1), need);
        }
        for (int need : outside(0, 9)) {
            due("look " + need, x.look(0, need), false);
        }
        due("the last that was one", x.told(0, 1), 9);
    }

    private static void knownFromItsWeekOn() {
        Town x = new Town().giver(1).home(0, 0, 3).pass(0, 115010).until(6);
        due("not known", x.told(0, 2), NONE);
        due("all is due", x.due(0), 3);
        x.look(0, 4);
        due("its week", x.told(0, 2), 6);
        due("known at once", x.due(0), 0);
        x.go(1);
        due("its week stays", x.told(0, 2), 6);
        due("known in the next one", x.due(0), 0);
    }

    private static void cardStates() {
        Town x = new Town().giver(40).home(0, 0, 1).bowls(0, 1);
        due("a new card", x.card(0, 0), 0);
        x.handed(1, 0).handed(2, 0);
        due("given", x.card(1, 0), 1);
        due("given", x.card(2, 0), 1);
        x.show(1);
        due("used", x.card(1, 0), 2);
        x.lose(2);
        due("lost when given", x.card(2, 0), 3);
        x.lose(3);
        due("lost when free", x.card(3, 0), 3);
        due("the first is as it was", x.card(0, 0), 0);
    }

    // ==== 2.

    private static void rules() {
        sentence("RULES come in force from a WEEK on", TermsEdgesTest::fromAWeekOn);
        sentence("RULES come in force, if they are PASSED", TermsEdgesTest::onlyIfPassed);
        sentence("bowls for each GROWN one (0 .. 9)", TermsEdgesTest::bowlsForGrown);
        sentence("bowls for each child (0 .. 9)", TermsEdgesTest::bowlsForChildren);
        sentence("the least NEED (0 .. 9)", TermsEdgesTest::leastNeeds);
        sentence("how many WEEKS a LOOK holds (1 .. 99)", TermsEdgesTest::weeksOfALook);
        sentence("in force is the one of the greatest WEEK that isn't above it", TermsEdgesTest::greatestWeek);
        sentence("of like ones the latest passed", TermsEdgesTest::latestPassed);
        sentence("without one: 1, 1, 0, 10", TermsEdgesTest::withoutARule);
        sentence("DUE to a HOUSE in NOW: by the RULE of NOW", TermsEdgesTest::byTheRuleOfNow);
        sentence("nothing, if the latest LOOK that holds yet told a lesser NEED", TermsEdgesTest::lesserNeed);
        sentence("the latest LOOK", TermsEdgesTest::latestLook);
        sentence("holds yet (NOW less its WEEK below what it holds)", TermsEdgesTest::holdsYet);
        sentence("all, if there is none such", TermsEdgesTest::allIfNoLook);
        sentence("A PROPOSAL is open (one at a time)", TermsEdgesTest::oneAtATime);
        sentence("each SUBSCRIBER has one vote", TermsEdgesTest::oneVote);
        sentence("as heavy as all COINS that they gave till then", TermsEdgesTest::heavyAsCoins);
        sentence("it is PASSED when closed", TermsEdgesTest::passedWhenClosed);
        sentence("if those for it are heavier than those against it", TermsEdgesTest::heavierThanAgainst);
    }

    private static void fromAWeekOn() {
        Town x = new Town().giver(1).home(0, 0, 1).pass(3, 210010);
        for (int week = 0; week <= 5; week++) {
            due("week " + week, x.until(week).due(0), week < 3 ? 1 : 2);
        }
        due("week 1040", x.until(LAST_WEEK).due(0), 2);
        Town last = new Town().giver(1).home(0, 0, 1).pass(LAST_WEEK, 210010);
        due("before the last week", last.until(1039).due(0), 1);
        due("in the last week", last.until(LAST_WEEK).due(0), 2);
    }

    private static void onlyIfPassed() {
        Town x = new Town().giver(1).home(0, 0, 1);
        x.propose(0, 210010);
        due("open", x.due(0), 1);
        x.vote(0, false);
        due("voted down", x.close(), 0);
        due("closed", x.due(0), 1);
        x.propose(1, 310010);
        due("without votes", x.close(), 0);
        due("its week", x.until(1).due(0), 1);
        due("none passed", x.count(8), 0);
    }

    private static void bowlsForGrown() {
        for (int n = 0; n <= 9; n++) {
            Town x = new Town().giver(1).pass(0, n * 100000 + 50010);
            x.house(0, 0, 73);
            due(n + " for each of 7, 5 for each of 3 children", x.due(0), 7 * n + 15);
        }
        Town x = new Town();
        due("10 for each", x.propose(0, 1000010), false);
        due("10 for each, and all else the most", x.propose(0, 1099099), false);
        due("-1 for each, 1 for each child", x.propose(0, -100000 + 10010), false);
        due("-1 for each, 0 for each child", x.propose(0, -100000 + 10), false);
    }

    private static void bowlsForChildren() {
        for (int n = 0; n <= 9; n++) {
            Town x = new Town().giver(1).pass(0, 500010 + n * 10000);
            x.house(0, 0, 37);
            due("5 for each of 3 grown, " + n + " for each of 7", x.due(0), 15 + 7 * n);
        }
        Town none = new Town().giver(1).pass(0, 990010).home(0, 0, 9);
        due("there are none", none.due(0), 81);
        Town x = new Town();
        due("-1 for each", x.propose(0, -10000 + 10), false);
    }

    private static void leastNeeds() {
        for (int least = 0; least <= 9; least++) {
            Town x = new Town().giver(1).home(0, 0, 4).pass(0, 100010 + least * 1000);
            for (int need = 0; need <= 9; need++) {
                x.look(0, need);
                due("least " + least + ", told " + need, x.due(0), need < least ? 0 : 4);
            }
        }
        Town x = new Town();
        due("least -1", x.propose(0, -1000 + 10), false);
    }

    private static void weeksOfALook() {
        for (int holds = 1; holds <= 99; holds++) {
            Town x = new Town().giver(1).home(0, 0, 4).pass(0, 109000 + holds);
            x.look(0, 8);
            due(holds + ": its last week", x.until(holds - 1).due(0), 0);
            due(holds + ": the week behind it", x.until(holds).due(0), 4);
        }
        Town x = new Town();
        for (int holds : new int[] {0, 100, 101, 109, 110, 500, 999}) {
            due("holds " + holds, x.propose(0, 110000 + holds), false);
            due("the most of all else, holds " + holds, x.propose(0, 999000 + holds), false);
            due("the least of all else, holds " + holds, x.propose(0, holds), false);
        }
        due("holds -1", x.propose(0, -1), false);
        due("holds 1", x.propose(0, 1), true);
        x.close();
        due("holds 99", x.propose(0, 999099), true);
    }

    private static void greatestWeek() {
        Town x = new Town().giver(1).home(0, 0, 1);
        x.pass(6, 610010).pass(2, 210010).pass(4, 410010).pass(LAST_WEEK, 910010);
        int[] bowls = {1, 1, 2, 2, 4, 4, 6, 6, 6};
        for (int week = 0; week < bowls.length; week++) {
            due("week " + week, x.until(week).due(0), bowls[week]);
        }
        x.pass(8, 810010);
        due("one of NOW", x.due(0), 8);
        x.pass(9, 310010);
        due("one of the next week", x.due(0), 8);
        due("then", x.until(9).due(0), 3);
        due("week 1039", x.until(1039).due(0), 3);
        due("week 1040", x.until(LAST_WEEK).due(0), 9);
    }

    private static void latestPassed() {
        Town x = new Town().giver(1).home(0, 0, 1);
        x.pass(0, 910010).pass(0, 210010).pass(0, 510010);
        due("the third of week 0", x.due(0), 5);
        x.pass(3, 810010).pass(2, 710010).pass(3, 410010);
        due("week 2", x.until(2).due(0), 7);
        due("the latest of week 3", x.until(3).due(0), 4);
        x.propose(3, 910010);
        x.close();
        due("a later one that wasn't passed", x.due(0), 4);
        Town usual = new Town().giver(1).home(0, 0, 1).pass(0, 310010).pass(0, 110010);
        due("one of week 0 that is as without one", usual.due(0), 1);
    }

    private static void withoutARule() {
        Town x = new Town().giver(1);
        x.house(0, 0, 42);
        x.house(0, 0, 10);
        due("1 for each grown, 1 for each child", x.due(0), 6);
        x.look(0, 0);
        due("least need 0", x.due(0), 6);
        x.visitor(0, 0, 8);
        x.until(9);
        due("the look holds in week 9", x.visits(0), NONE);
        x.until(10);
        due("not in week 10", x.visits(0), 0);
        x.pass(12, 220010);
        due("before the first one", x.until(11).due(0), 6);
        due("in its week", x.until(12).due(0), 12);
    }

    private static void byTheRuleOfNow() {
        Town x = new Town().giver(1).home(0, 0, 5).pass(0, 100010).pass(2, 105010).pass(4, 200003);
        x.look(0, 4);
        due("week 0: least need 0", x.due(0), 5);
        due("week 2: least need 5", x.until(2).due(0), 0);
        due("week 3", x.until(3).due(0), 0);
        due("week 4: 2 for each", x.until(4).due(0), 10);
        x.pass(4, 205003);
        due("week 4: the look of week 0 holds but 3", x.due(0), 10);
        x.pass(4, 205005);
        due("week 4: it holds 5", x.due(0), 0);
        x.pass(4, 205004);
        due("week 4: it holds 4", x.due(0), 10);
    }

    private static void lesserNeed() {
        Town x = new Town().giver(1).home(0, 0, 5).home(0, 0, 6).pass(0, 106010);
        x.look(0, 5);
        due("one less", x.due(0), 0);
        due("the other house", x.due(1), 6);
        x.look(0, 6);
        due("just as much", x.due(0), 5);
        x.look(0, 7);
        due("one more", x.due(0), 5);
        x.look(0, 0);
        due("none", x.due(0), 0);
        x.pass(0, 100010);
        due("none, and none is asked for", x.due(0), 5);
    }

    private static void latestLook() {
        Town x = new Town().giver(1).home(0, 0, 5).pass(0, 105010);
        x.look(0, 9);
        x.look(0, 0);
        due("the later of one week", x.due(0), 0);
        x.look(0, 9);
        due("the latest of one week", x.due(0), 5);
        x.until(3);
        x.look(0, 4);
        due("the later week", x.due(0), 0);
        due("when the first holds no more", x.until(10).due(0), 0);
        due("the last week of the later one", x.until(12).due(0), 0);
        due("when none holds", x.until(13).due(0), 5);
        x.look(0, 0);
        x.until(15);
        x.look(0, 5);
        due("the earlier that told less holds too", x.due(0), 5);
    }

    private static void holdsYet() {
        Town x = new Town().giver(1).home(0, 0, 5).visitorAtWard().pass(0, 109003).until(7);
        x.look(0, 0);
        for (int week = 7; week <= 11; week++) {
            boolean holds = week - 7 < 3;
            due("due in week " + week, x.until(week).due(0), holds ? 0 : 5);
            due("visits in week " + week, x.visits(0), holds ? NONE : 0);
        }
        x.look(0, 0);
        due("a new one holds anew", x.due(0), 0);
        due("two weeks on", x.until(13).due(0), 0);
        due("three weeks on", x.until(14).due(0), 5);
    }

    private static void allIfNoLook() {
        Town x = new Town().giver(1).home(0, 0, 5).pass(0, 109001);
        due("never a look", x.due(0), 5);
        x.look(0, 0);
        due("one", x.due(0), 0);
        due("one that is over", x.until(1).due(0), 5);
        due("long ago", x.until(LAST_WEEK).due(0), 5);
    }

    private static void oneAtATime() {
        Town x = new Town().giver(1).home(0, 0, 1);
        due("none is open", x.close(), NONE);
        due("the first", x.propose(0, 210010), true);
        due("a second", x.propose(0, 310010), false);
        x.go(1);
        due("a second in the next week", x.propose(1, 310010), false);
        x.vote(0, true);
        due("the first is closed", x.close(), 1);
        due("it was the first", x.due(0), 2);
        due("none is open", x.close(), NONE);
        due("another", x.propose(1, 310010), true);
        due("not passed", x.close(), 0);
        due("another", x.propose(1, 310010), true);
    }

    private static void oneVote() {
        Town x = new Town().giver(3).giver(2).giver(2).home(0, 0, 1);
        x.propose(0, 210010);
        due("0 for it", x.vote(0, true), true);
        due("0 for it again", x.vote(0, true), false);
        due("0 against it", x.vote(0, false), false);
        due("1 against it", x.vote(1, false), true);
        due("2 against it", x.vote(2, false), true);
        due("0 again", x.vote(0, true), false);
        due("3 for, 4 against", x.close(), 0);
        x.propose(0, 210010);
        due("each has one for the next", x.vote(0, true), true);
        due("each has one for the next", x.vote(1, false), true);
        due("each has one for the next", x.vote(2, true), true);
        due("5 for, 2 against", x.close(), 1);
    }

    private static void heavyAsCoins() {
        due("10 against 9: not cards alone", ballot(10, 9), 1);
        due("19 against 18: not cards", ballot(19, 18), 1);
        due("18 against 19", ballot(18, 19), 0);
        due("9 against 10: not the rest", ballot(9, 10), 0);
        due("1 against none", ballot(1, 0), 1);
        due("none against 1", ballot(0, 1), 0);
        Town x = new Town().giver(5).giver(7);
        x.propose(0, 110010);
        x.give(0, 2);
        x.vote(0, true);
        x.vote(1, false);
        due("7 and 7, given before the vote but after the proposal", x.close(), 0);
        x.propose(0, 110010);
        x.vote(1, false);
        x.give(0, 1);
        x.vote(0, true);
        due("8 against 7", x.close(), 1);
        x.propose(0, 110010);
        x.vote(0, true);
        x.give(1, 1);
        x.vote(1, false);
        due("8 against 8", x.close(), 0);
        x.propose(0, 110010);
        x.vote(0, true);
        x.vote(1, false);
        x.give(0, 100);
        due("8 against 8: what is given behind the vote isn't in it", x.close(), 0);
        x.propose(0, 110010);
        x.vote(0, true);
        x.vote(1, false);
        x.give(1, 1000);
        due("108 against 8", x.close(), 1);
    }

    private static int ballot(int coinsFor, int coinsAgainst) {
        Town x = new Town().giver(coinsFor).giver(coinsAgainst);
        x.propose(0, 110010);
        x.vote(0, true);
        x.vote(1, false);
        return x.close();
    }

    private static void passedWhenClosed() {
        Town x = new Town().giver(1).home(0, 0, 1);
        x.propose(0, 210010);
        x.vote(0, true);
        due("none is passed yet", x.count(8), 0);
        due("not in force yet", x.due(0), 1);
        x.until(2);
        due("nor in a later week", x.due(0), 1);
        due("closed", x.close(), 1);
        due("passed", x.count(8), 1);
        due("in force, from a week that is over", x.due(0), 2);
        x.pass(2, 310010);
        x.propose(2, 410010);
        x.vote(0, true);
        x.until(3);
        x.close();
        due("a like week, passed later", x.due(0), 4);
    }

    private static void heavierThanAgainst() {
        due("none voted", closedWithout(), 0);
        due("6 and 6", ballot(6, 6), 0);
        due("7 and 6", ballot(7, 6), 1);
        due("6 and 7", ballot(6, 7), 0);
        due("0 and 0", ballot(0, 0), 0);
        Town x = new Town().giver(2).giver(2).giver(3);
        x.propose(0, 110010);
        x.vote(0, true);
        x.vote(1, true);
        x.vote(2, false);
        due("2 and 2 against 3", x.close(), 1);
        x.propose(0, 110010);
        x.vote(2, true);
        x.vote(1, false);
        x.vote(0, false);
        due("3 against 2 and 2", x.close(), 0);
        x.propose(0, 110010);
        x.vote(0, true);
        due("those who didn't vote weigh nothing", x.close(), 1);
        x.propose(0, 110010);
        due("nor do votes on an earlier one", x.close(), 0);
    }

    private static int closedWithout() {
        Town x = new Town().giver(100);
        x.propose(0, 110010);
        return x.close();
    }

    // ==== 3.

    private static void kitchens() {
        sentence("BOWLS there are cooked for NOW alone", TermsEdgesTest::bowlsForNow);
        sentence("what is left as the WEEK ends is LEFT", TermsEdgesTest::whatIsLeft);
        sentence("To cook takes 300 grams of the STORE of the WARD each", TermsEdgesTest::gramsOfABowl);
        sentence("FORECAST of a WARD: the sum of what is DUE to its HOUSES", TermsEdgesTest::sumOfDue);
        sentence("for each degree of FROST a tenth of that sum (cut) more", TermsEdgesTest::tenths);
        sentence("FROST (0 .. 9)", TermsEdgesTest::degrees);
        sentence("FROST: told for NOW, 0 as a WEEK begins", TermsEdgesTest::frostOfNow);
        sentence("A CARD is USED at the KITCHEN of the WARD of its HOUSE", TermsEdgesTest::kitchenOfTheHouse);
        sentence("one WEEK's DUE of that HOUSE, all at once, if there are so many BOWLS", TermsEdgesTest::allAtOnce);
        sentence("and the HOUSE wasn't fed in this WEEK", TermsEdgesTest::fedOnceAWeek);
        sentence("A second showing of a CARD that is USED is a DOUBLE", TermsEdgesTest::doubles);
        sentence("Free CARDS are POOLED: as a WEEK ends whose rest by 4 is 3", TermsEdgesTest::poolWeeks);
        sentence("each free CARD goes", TermsEdgesTest::onlyFreeCards);
        sentence("by numbers, to the HOUSE that got CARDS least often", TermsEdgesTest::leastOften);
        sentence("of those to which something is DUE", TermsEdgesTest::somethingDue);
        sentence("of like ones the least number; it is more often at once", TermsEdgesTest::oneByOne);
        sentence("none, if nothing is DUE to any", TermsEdgesTest::noneIfNothingDue);
    }

    private static void bowlsForNow() {
        Town x = new Town().giver(10).home(0, 0, 2).handed(0, 0).bowls(0, 3);
        x.bowls(5, 1);
        due("no week ended", x.go(0), 0);
        due("they are there", x.ward(0, 1), 3);
        x.go(1);
        due("they are gone", x.ward(0, 1), 0);
        due("in all wards", x.ward(5, 1), 0);
        due("nobody eats them", x.show(0), NONE);
        x.bowls(0, 2);
        due("those of NOW", x.ward(0, 1), 2);
        due("are eaten", x.show(0), 2);
    }

    private static void whatIsLeft() {
        Town x = new Town().giver(20).home(0, 0, 2).handed(0, 0).handed(1, 0).bowls(0, 3);
        due("not before the week ends", x.ward(0, 2), 0);
        due("two are eaten", x.show(0), 2);
        x.go(1);
        due("one is left", x.ward(0, 2), 1);
        x.go(1);
        due("none more of an empty week", x.ward(0, 2), 1);
        x.bowls(0, 2);
        due("two are eaten", x.show(1), 2);
        x.go(1);
        due("none is left", x.ward(0, 2), 1);
        x.bowls(0, 333);
        x.go(60);
        due("once, in many weeks", x.ward(0, 2), 334);
        due("grams don't come back", x.ward(0, 0), 0);
        due("left ones aren't eaten", x.ward(0, 3), 4);
        due("of another ward", x.ward(1, 2), 0);
    }

    private static void gramsOfABowl() {
        for (int bowls = 1; bowls <= 4; bowls++) {
            Town x = new Town();
            x.store(2, 300 * bowls - 1);
            due("one gram too few", x.cook(2, bowls), NONE);
            x.store(2, 1);
            due("just enough", x.cook(2, bowls), bowls);
            due("none stays", x.ward(2, 0), 0);
            due("nothing for another", x.cook(2, 1), NONE);
        }
        Town other = new Town();
        other.store(1, 100000);
        due("the store of another ward", other.cook(2, 1), NONE);
        due("one bowl", other.cook(1, 1), 1);
        due("99700 stay", other.ward(1, 0), 99700);
    }

    private static void sumOfDue() {
        Town x = new Town().giver(10);
        for (int ward = 0; ward <= 5; ward++) {
            due("no house", x.forecast(ward), 0);
        }
        x.home(0, 0, 4).home(1, 0, 9).home(0, 50, 3).home(5, 0, 1).pass(0, 105010);
        due("4 and 3", x.forecast(0), 7);
        due("9", x.forecast(1), 9);
        due("1", x.forecast(5), 1);
        x.look(0, 4);
        due("nothing and 3", x.forecast(0), 3);
        x.look(2, 0);
        due("nothing at all", x.forecast(0), 0);
        x.look(0, 5);
        x.handed(0, 0).bowls(0, 4);
        due("fed", x.show(0), 4);
        due("what is due stays due", x.forecast(0), 4);
    }

    private static void tenths() {
        int[][] homes = {{}, {1}, {9}, {9, 1}, {9, 2}, {9, 9, 1}, {9, 9, 2}, {9, 9, 9, 2}, {9, 9, 9, 3}};
        for (int[] grown : homes) {
            Town x = new Town();
            int sum = 0;
            for (int n : grown) {
                x.home(3, 0, n);
                sum += n;
            }
            for (int degrees = 0; degrees <= 9; degrees++) {
                x.frost(degrees);
                due(sum + " with " + degrees + " degrees", x.forecast(3), sum + degrees * (sum / 10));
            }
        }
        Town most = new Town().giver(1).pass(0, 990099);
        for (int i = 0; i < 30; i++) {
            most.house(4, 0, 99);
        }
        due("the most without frost", most.forecast(4), 4860);
        most.frost(9);
        due("the most", most.forecast(4), 4860 + 9 * 486);
    }

    private static void degrees() {
        Town x = new Town().home(0, 0, 9).home(0, 0, 1);
        for (int degrees = 0; degrees <= 9; degrees++) {
            due("frost " + degrees, x.frost(degrees), true);
            due("forecast", x.forecast(0), 10 + degrees);
        }
        for (int degrees : outside(0, 9)) {
            due("frost " + degrees, x.frost(degrees), false);
            due("forecast", x.forecast(0), 19);
        }
    }

    private static void frostOfNow() {
        Town x = new Town().home(0, 0, 9).home(0, 0, 1);
        due("0 at first", x.forecast(0), 10);
        x.frost(7);
        due("told", x.forecast(0), 17);
        x.go(0);
        due("no week began", x.forecast(0), 17);
        x.go(1);
        due("0 as a week begins", x.forecast(0), 10);
        x.frost(4);
        x.frost(2);
        due("the later told one", x.forecast(0), 12);
        x.go(60);
        due("0 behind many", x.forecast(0), 10);
    }

    private static void kitchenOfTheHouse() {
        Town x = new Town().giver(20).home(1, 0, 2).home(4, 0, 3).handed(0, 0).handed(1, 1);
        for (int ward = 0; ward <= 5; ward++) {
            if (ward != 1) {
                x.bowls(ward, 9);
            }
        }
        due("none in ward 1", x.show(0), NONE);
        x.bowls(1, 2);
        due("two in ward 1", x.show(0), 2);
        due("three in ward 4", x.show(1), 3);
        int[] there = {9, 0, 9, 9, 6, 9};
        int[] eaten = {0, 2, 0, 0, 3, 0};
        for (int ward = 0; ward <= 5; ward++) {
            due("there", x.ward(ward, 1), there[ward]);
            due("eaten", x.ward(ward, 3), eaten[ward]);
        }
    }

    private static void allAtOnce() {
        Town x = new Town().giver(20).home(0, 0, 7).home(0, 0, 1).handed(0, 0).handed(1, 1).bowls(0, 6);
        due("one too few", x.show(0), NONE);
        due("nothing is eaten", x.ward(0, 3), 0);
        due("they are there", x.ward(0, 1), 6);
        due("it is given yet", x.card(0, 0), 1);
        x.bowls(0, 1);
        due("just as many", x.show(0), 7);
        due("none is there", x.ward(0, 1), 0);
        due("seven by that card", x.card(0, 4), 7);
        due("nothing for another", x.show(1), NONE);
    }

    private static void fedOnceAWeek() {
        Town x = new Town().giver(40).home(0, 0, 2).home(0, 0, 3).bowls(0, 100);
        x.handed(0, 0).handed(1, 0).handed(2, 1).handed(3, 0);
        due("the first", x.show(0), 2);
        due("a second in this week", x.show(1), NONE);
        due("another house", x.show(2), 3);
        due("the second again", x.show(1), NONE);
        x.go(1);
        x.bowls(0, 100);
        due("the second in the next week", x.show(1), 2);
        due("a third", x.show(3), NONE);
        x.until(LAST_WEEK);
        x.bowls(0, 100);
        due("in the last week", x.show(3), 2);
    }

    private static void doubles() {
        Town x = new Town().giver(40).home(0, 0, 2).bowls(0, 9).handed(0, 0).handed(1, 0).handed(2, 0);
        due("a free one is none", x.show(3), NONE);
        due("used", x.show(0), 2);
        due("its first showing is none", x.card(0, 5), 0);
        due("another one of a fed house is none", x.show(1), NONE);
        x.lose(2);
        due("a lost one is none", x.show(2), NONE);
        due("none so far", x.count(7), 0);
        due("the second showing", x.show(0), NONE);
        due("a double", x.card(0, 5), 1);
        due("the third", x.show(0), NONE);
        due("a double again", x.card(0, 5), 2);
        x.go(1);
        x.bowls(0, 9);
        due("in a later week", x.show(0), NONE);
        due("a double too", x.card(0, 5), 3);
        for (int card = 1; card <= 3; card++) {
            due("of the others", x.card(card, 5), 0);
        }
        due("in all", x.count(7), 3);
        due("none eats twice", x.ward(0, 3), 2);
        due("bowls of the card", x.card(0, 4), 2);
        due("its week", x.card(0, 3), 0);
    }

    private static void poolWeeks() {
        int[] ends = {0, 1, 2, 3, 4, 5, 6, 7, 8, 11, 12, 255, 256, 1036, 1037, 1038, 1039};
        for (int week : ends) {
            Town x = new Town().home(0, 0, 1).until(week).giver(10);
            due("before week " + week + " ends", x.card(0, 0), 0);
            x.go(0);
            due("no week ended", x.card(0, 0), 0);
            x.go(1);
            due("week " + week + " ended", x.card(0, 0), week % 4 == 3 ? 1 : 0);
        }
        Town many = new Town().home(0, 0, 1).until(1).giver(10);
        many.go(60);
        due("among many weeks", many.card(0, 0), 1);
        Town last = new Town().home(0, 0, 1).until(LAST_WEEK).giver(10);
        last.go(60);
        due("behind the last week", last.card(0, 0), 0);
    }

    private static void onlyFreeCards() {
        Town x = new Town().giver(50).home(0, 0, 1).home(0, 0, 1).bowls(0, 1);
        x.handed(0, 1).handed(1, 1).handed(2, 1);
        x.show(0);
        x.lose(1);
        x.lose(3);
        x.until(4);
        int[] states = {2, 3, 1, 3, 1};
        int[] houses = {1, 1, 1, NONE, 0};
        for (int card = 0; card < states.length; card++) {
            due("how card " + card + " is", x.card(card, 0), states[card]);
            if (states[card] != 3) {
                due("house of card " + card, x.card(card, 2), houses[card]);
            }
        }
        due("house 0 got one", x.told(0, 3), 1);
        due("house 1 got no more", x.told(1, 3), 3);
        due("none is free", x.count(4), 0);
    }

    private static void leastOften() {
        Town x = new Town().giver(90).home(0, 0, 1).home(5, 0, 1).home(2, 0, 1);
        x.handed(8, 0).handed(2, 0).handed(0, 1);
        x.until(4);
        // behind the hands the houses have 2, 1 and 0; cards 1, 3, 4, 5, 6 and 7 are free
        int[] houses = {1, 2, 0, 1, 2, 0, 1, 2, 0};
        for (int card = 0; card < houses.length; card++) {
            due("house of card " + card, x.card(card, 2), houses[card]);
        }
        for (int house = 0; house <= 2; house++) {
            due("got by house " + house, x.told(house, 3), 3);
        }
        x.handed(giveOne(x), 0);
        int next = giveOne(x);
        x.home(3, 0, 1);
        x.until(8);
        due("to a new house that got none", x.card(next, 2), 3);
    }

    private static int giveOne(Town x) {
        due("a card comes", x.give(0, 10), 1);
        return x.count(3) - 1;
    }

    private static void somethingDue() {
        Town x = new Town().giver(30).home(0, 0, 1).home(0, 0, 1).home(1, 0, 1).pass(0, 105099).pass(4, 100099);
        x.look(0, 4);
        x.look(2, 0);
        x.until(4);
        due("all to the only one", x.told(1, 3), 3);
        due("none to 0", x.told(0, 3), 0);
        due("none to 2", x.told(2, 3), 0);
        due("something is due to it by the rule of the next week alone", x.due(0), 1);
        x.give(0, 30);
        x.pass(8, 105099);
        x.until(8);
        due("by the rule of the week that ended", x.told(0, 3), 2);
        due("by the rule of the week that ended", x.told(2, 3), 1);
        due("nothing is due now", x.due(0), 0);
        Town held = new Town().giver(10).home(0, 0, 1).pass(0, 105004);
        held.look(0, 0);
        held.until(4);
        due("the look held in week 3", held.card(0, 0), 0);
        held.until(8);
        due("it held no more", held.card(0, 0), 1);
    }

    private static void oneByOne() {
        Town x = new Town().giver(310);
        for (int i = 0; i < 30; i++) {
            x.home(i % 6, 0, 1);
        }
        x.until(4);
        for (int card = 0; card <= 30; card++) {
            due("house of card " + card, x.card(card, 2), card % 30);
        }
        due("the first got two", x.told(0, 3), 2);
        due("the second got one", x.told(1, 3), 1);
        due("the last got one", x.told(29, 3), 1);
    }

    private static void noneIfNothingDue() {
        Town nobody = new Town().giver(20).until(4);
        due("no house", nobody.count(4), 2);
        Town x = new Town().giver(20).home(0, 0, 1).home(1, 0, 1).pass(0, 10099);
        x.until(4);
        due("no bowls for grown ones, and no children", x.count(4), 2);
        due("none got any", x.told(0, 3), 0);
        x.pass(4, 105099);
        x.look(0, 0);
        x.look(1, 4);
        x.until(8);
        due("lesser needs", x.count(4), 2);
        x.look(1, 5);
        x.until(12);
        due("one of them", x.told(1, 3), 2);
    }

    // ==== 4.

    private static void visitors() {
        sentence("VISITORS have numbers as they come, at most 4", TermsEdgesTest::fourVisitors);
        sentence("how many HOUSES a WEEK (1 .. 8)", TermsEdgesTest::housesOfAVisitor);
        sentence("HOUSES there without a LOOK that holds", TermsEdgesTest::withoutALook);
        sentence("if these are 1 to 6", TermsEdgesTest::oneToSix);
        sentence("and VISITORS of that WARD", TermsEdgesTest::visitorsOfThatWard);
        sentence("each such HOUSE gets one or none", TermsEdgesTest::oneOrNone);
        sentence("so that most are visited", TermsEdgesTest::mostVisited);
        sentence("of like ones by the least sum of how far PLACES are", TermsEdgesTest::leastSum);
        sentence("of like ones the first one (HOUSES by numbers, VISITORS by numbers)", TermsEdgesTest::firstOne);
        sentence("none behind all", TermsEdgesTest::noneBehindAll);
    }

    private static void fourVisitors() {
        Town x = new Town().home(0, 50, 1);
        for (int i = 0; i < 4; i++) {
            due("visitor", x.visitor(0, 10 * i, 1), i);
            due("the nearest", x.visits(0), i);
        }
        due("the fifth", x.visitor(0, 50, 1), NONE);
        due("once more, of another ward", x.visitor(1, 50, 8), NONE);
        due("the nearest of four", x.visits(0), 3);
        due("how far", x.far(0), 20);
    }

    private static void housesOfAVisitor() {
        for (int many = 1; many <= 8; many++) {
            Town x = new Town();
            due("visitor of " + many, x.visitor(0, 0, many), 0);
            int far = 0;
            for (int i = 0; i < 6; i++) {
                x.home(0, 10 + i, 1);
                far += i < many ? 10 + i : 0;
            }
            due("far for " + many, x.far(0), far);
            for (int i = 0; i < 6; i++) {
                due("house " + i + " for " + many, x.visits(i), i < many ? 0 : NONE);
            }
        }
        Town x = new Town();
        for (int many : outside(1, 8)) {
            due("visitor of " + many, x.visitor(0, 0, many), NONE);
        }
    }

    private static void withoutALook() {
        Town x = new Town().giver(1).home(0, 10, 1).home(0, 20, 1).visitorAtWard();
        due("both", x.far(0), 30);
        x.look(1, 9);
        due("one", x.far(0), 10);
        due("it has one", x.visits(0), 0);
        due("the other hasn't", x.visits(1), NONE);
        x.look(0, 0);
        due("all have looks", x.far(0), NONE);
        due("none has one", x.visits(0), NONE);
        due("week 9", x.until(9).far(0), NONE);
        due("week 10", x.until(10).far(0), 30);
        x.look(0, 5);
        x.pass(10, 110001);
        due("a look that holds one week", x.far(0), 20);
        due("holds no more in the next", x.until(11).far(0), 30);
    }

    private static void oneToSix() {
        Town x = new Town().giver(1).visitorAtWard();
        due("none", x.far(0), NONE);
        int far = 0;
        for (int i = 0; i < 6; i++) {
            x.home(0, 99 - i, 1);
            far += 99 - i;
            due((i + 1) + " houses", x.far(0), far);
            due("the last of " + (i + 1), x.visits(i), 0);
        }
        x.home(0, 0, 1);
        due("seven", x.far(0), NONE);
        for (int i = 0; i <= 6; i++) {
            due("house " + i + " of seven", x.visits(i), NONE);
        }
        x.home(1, 0, 1);
        due("another ward has one", x.far(1), 0);
        x.look(6, 9);
        due("six without a look", x.far(0), far);
        due("the seventh has a look", x.visits(6), NONE);
        for (int i = 0; i < 5; i++) {
            x.look(i, 9);
        }
        due("one without a look", x.far(0), 94);
        due("it", x.visits(5), 0);
        x.look(5, 9);
        due("none without a look", x.far(0), NONE);
        x.until(10);
        due("seven", x.far(0), NONE);
        fullTown();
    }

    private static void fullTown() {
        Town x = new Town();
        for (int i = 0; i < 30; i++) {
            x.home(i % 5, i, 1);
        }
        for (int ward = 0; ward < 5; ward++) {
            due("six in each of five wards", x.far(ward), 0);
        }
        x.visitor(4, 0, 8);
        due("4, 9, 14, 19, 24 and 29", x.far(4), 99);
        due("none in ward 5", x.far(5), NONE);
        Town one = new Town();
        for (int i = 0; i < 30; i++) {
            one.home(2, i, 1);
        }
        due("thirty in one ward", one.far(2), NONE);
        due("the last of thirty", one.visits(29), NONE);
    }

    private static void visitorsOfThatWard() {
        Town x = new Town().home(3, 50, 1).home(2, 50, 1);
        due("no visitor", x.far(3), 0);
        due("none visits", x.visits(0), NONE);
        x.visitor(2, 50, 8);
        due("one of another ward", x.visits(0), NONE);
        x.visitor(3, 99, 1);
        due("one of that ward", x.visits(0), 1);
        due("how far it is", x.far(3), 49);
        due("the other ward", x.visits(1), 0);
        due("how far it is", x.far(2), 0);
        due("a ward with neither", x.far(0), NONE);
    }

    private static void oneOrNone() {
        Town x = new Town().home(0, 50, 1);
        x.visitor(0, 50, 8);
        x.visitor(0, 50, 8);
        x.visitor(0, 50, 8);
        x.visitor(0, 50, 8);
        due("one of four", x.visits(0), 0);
        due("no way is counted twice", x.far(0), 0);
        x.home(0, 20, 1);
        due("each has one", x.far(0), 30);
        Town few = new Town().home(0, 50, 1).home(0, 60, 1);
        few.visitor(0, 50, 1);
        due("one", few.visits(0), 0);
        due("none", few.visits(1), NONE);
    }

    private static void mostVisited() {
        Town x = new Town().home(0, 0, 1).home(0, 99, 1);
        x.visitor(0, 0, 1);
        due("one of two", x.far(0), 0);
        due("the near one", x.visits(0), 0);
        x.visitor(0, 0, 1);
        due("both, though one is far", x.far(0), 99);
        due("the near one", x.visits(0), 0);
        due("the far one", x.visits(1), 1);
        Town far = new Town().visitorAtWard();
        for (int i = 0; i < 6; i++) {
            far.home(0, 99, 1);
        }
        due("the greatest sum of all", far.far(0), 594);
        due("the last of them", far.visits(5), 0);
    }

    private static void leastSum() {
        Town x = new Town().home(0, 40, 1).home(0, 10, 1).home(0, 90, 1);
        x.visitor(0, 50, 2);
        x.visitor(0, 0, 1);
        due("40 and 90 by 0, 10 by 1", x.far(0), 10 + 40 + 10);
        due("40", x.visits(0), 0);
        due("10", x.visits(1), 1);
        due("90", x.visits(2), 0);
        Town trap = new Town().home(0, 30, 1).home(0, 60, 1);
        trap.visitor(0, 40, 1);
        trap.visitor(0, 10, 1);
        due("the nearest for the first alone would be worse", trap.visits(0), 1);
        due("the second", trap.visits(1), 0);
        due("20 and 20, not 10 and 50", trap.far(0), 40);
        Town apart = new Town().home(0, 50, 1).home(0, 60, 1).home(0, 99, 1);
        apart.visitor(0, 60, 1);
        apart.visitor(0, 50, 1);
        due("the way to one that stays unvisited isn't in it", apart.far(0), 0);
        due("50", apart.visits(0), 1);
        due("60", apart.visits(1), 0);
        due("99", apart.visits(2), NONE);
        lessByOne();
        Town both = new Town().home(0, 0, 1).home(0, 99, 1);
        both.visitor(0, 99, 1);
        due("the one that is nearest", both.visits(1), 0);
        due("none for the first number", both.visits(0), NONE);
        due("sum", both.far(0), 0);
    }

    private static void lessByOne() {
        Town few = new Town().home(0, 60, 1).home(0, 59, 1).home(0, 99, 1);
        few.visitor(0, 50, 1);
        due("10, 9 or 49: the second", few.visits(1), 0);
        due("not the first", few.visits(0), NONE);
        due("9", few.far(0), 9);
        Town three = new Town().home(0, 60, 1).home(0, 40, 1).home(0, 59, 1);
        three.visitor(0, 50, 2);
        due("10 and 10, or 10 and 9", three.far(0), 19);
        due("the first of like ones", three.visits(0), 0);
        due("not the second", three.visits(1), NONE);
        due("the third, which is nearer", three.visits(2), 0);
        Town all = new Town().home(0, 50, 1).home(0, 60, 1);
        all.visitor(0, 60, 8);
        all.visitor(0, 41, 8);
        due("10 or 9: visitor 1", all.visits(0), 1);
        due("9", all.far(0), 9);
        Town one = new Town().home(0, 60, 1).home(0, 20, 1);
        one.visitor(0, 50, 1);
        due("one of two stays unvisited", one.far(0), 10);
        Town far = new Town().home(0, 0, 1).home(0, 99, 1).home(0, 98, 1);
        far.visitor(0, 50, 1);
        far.visitor(0, 0, 1);
        due("0 by 1, and the nearer of 99 and 98", far.far(0), 48);
        due("it", far.visits(2), 0);
        askedBefore();
    }

    /** What was asked for one ward must not stay in the answer for another. */
    private static void askedBefore() {
        Town x = new Town();
        for (int i = 0; i < 6; i++) {
            x.home(1, 99, 1);
        }
        x.home(0, 50, 1).home(0, 60, 1).home(0, 60, 1);
        x.visitor(1, 0, 8);
        x.visitor(0, 60, 8);
        x.visitor(0, 41, 8);
        for (int house = 7; house <= 9; house++) {
            due("six far ones", x.far(1), 594);
            due("9", x.far(0), 9);
            due("visitor 2 for the first", x.visits(6), 2);
            if (house < 9) {
                x.look(house, 5);
            }
        }
    }

    private static void firstOne() {
        Town x = new Town().home(0, 50, 1);
        x.visitor(0, 60, 1);
        x.visitor(0, 40, 1);
        due("both are 10 far", x.visits(0), 0);
        x.home(0, 50, 1);
        due("the first house by the first visitor", x.visits(0), 0);
        due("the second by the second", x.visits(1), 1);
        Town between = new Town().home(0, 20, 1).home(0, 30, 1);
        between.visitor(0, 10, 1);
        between.visitor(0, 0, 1);
        due("10 and 30, or 20 and 20", between.far(0), 40);
        due("visitor 0 for the first house", between.visits(0), 0);
        due("visitor 1 for the second", between.visits(1), 1);
        Town other = new Town().home(0, 20, 1).home(0, 30, 1);
        other.visitor(0, 0, 1);
        other.visitor(0, 10, 1);
        due("20 and 20, or 10 and 30", other.far(0), 40);
        due("visitor 0 for the first house", other.visits(0), 0);
        due("visitor 1 for the second", other.visits(1), 1);
        Town three = new Town().home(0, 5, 1).home(0, 5, 1).home(0, 5, 1);
        three.visitor(0, 5, 1);
        three.visitor(0, 5, 8);
        due("first", three.visits(0), 0);
        due("second", three.visits(1), 1);
        due("third", three.visits(2), 1);
    }

    private static void noneBehindAll() {
        Town x = new Town().home(0, 40, 1).home(0, 60, 1).home(0, 40, 1);
        x.visitor(0, 50, 1);
        due("the first house", x.visits(0), 0);
        due("none", x.visits(1), NONE);
        due("none", x.visits(2), NONE);
        x.visitor(0, 50, 1);
        due("the first house", x.visits(0), 0);
        due("the second", x.visits(1), 1);
        due("none", x.visits(2), NONE);
        due("how far", x.far(0), 20);
        x.look(0, 5);
        due("the second is the first now", x.visits(1), 0);
        due("the third", x.visits(2), 1);
    }

    // ==== 5.

    private static void books() {
        sentence("ENTRIES of CHARITIES (0 .. 5)", TermsEdgesTest::charities);
        sentence("ENTRIES have numbers as they come, at most 60", TermsEdgesTest::sixtyEntries);
        sentence("five MARKS each, 0 .. 8, or 9, if it isn't known", TermsEdgesTest::marks);
        sentence("SAME, if at least three MARKS are known of both and alike", TermsEdgesTest::threeAlike);
        sentence("and none that is known of both differs", TermsEdgesTest::noneDiffers);
        sentence("in DOUBT, if none differs, but fewer (one at least) are alike", TermsEdgesTest::doubt);
        sentence("else two", TermsEdgesTest::elseTwo);
        sentence("JOINED are ENTRIES that are SAME, one by one, through others", TermsEdgesTest::throughOthers);
        sentence("also of one CHARITY then", TermsEdgesTest::ofOneCharity);
    }

    private static void charities() {
        Town x = new Town();
        for (int charity = 0; charity <= 5; charity++) {
            due("entry of " + charity, x.entry(charity, 11111), charity);
        }
        for (int a = 0; a <= 5; a++) {
            for (int b = 0; b <= 5; b++) {
                due("two charities", x.same(a, b), a == b ? NONE : 1);
            }
        }
        for (int charity : outside(0, 5)) {
            due("entry of " + charity, x.entry(charity, 11111), NONE);
        }
    }

    private static void sixtyEntries() {
        Town x = new Town();
        for (int i = 0; i < 60; i++) {
            due("there are", x.count(9), i);
            due("entry", x.entry(i % 6, 11111 * (i / 2 % 9)), i);
        }
        due("the 61st", x.entry(0, 0), NONE);
        due("once more", x.entry(5, 99999), NONE);
        due("there are", x.count(9), 60);
        due("the last is there", x.joined(59), 4);
        due("and none behind it", x.joined(60), NONE);
        due("the last and the first", x.same(59, 0), 0);
        due("none behind the last", x.same(0, 60), NONE);
    }

    private static void marks() {
        int[] places = {1, 10, 100, 1000, 10000};
        for (int mark = 0; mark <= 9; mark++) {
            for (int place : places) {
                Town x = new Town();
                int same = 99999 - 9 * place + mark * place;
                x.entry(0, same);
                x.entry(1, same);
                x.entry(2, 99999 - 9 * place + (mark + 1) % 9 * place);
                due("mark " + mark + " at " + place, x.same(0, 1), mark == 9 ? 0 : 2);
                due("another mark at " + place, x.same(0, 2), 0);
            }
        }
        Town x = new Town();
        for (int marks : outside(0, 99999)) {
            due("marks " + marks, x.entry(0, marks), NONE);
        }
        due("the least", x.entry(0, 0), 0);
        due("the most", x.entry(0, 99999), 1);
    }

    private static void threeAlike() {
        int[][] pairs = {
            {1, 12399, 12399}, {1, 92349, 92349}, {1, 99123, 99123}, {1, 19293, 19293}, {1, 12993, 12993},
            {1, 12399, 12345}, {1, 12394, 12394}, {1, 12349, 12349}, {1, 12345, 12345},
            {1, 0, 0}, {1, 88888, 88888}, {1, 12349, 92345}, {2, 12999, 12999}, {2, 12349, 99345}, {2, 12399, 19345},
        };
        checkPairs(pairs);
    }

    private static void noneDiffers() {
        int[][] pairs = {
            {0, 12345, 12346}, {0, 12345, 12355}, {0, 12345, 12445}, {0, 12345, 13345}, {0, 12345, 22345},
            {0, 12349, 12359}, {0, 99912, 99913}, {0, 12999, 22999}, {0, 88888, 88880}, {0, 0, 1},
            {1, 12345, 12349}, {1, 12345, 92345}, {1, 12395, 12945},
        };
        checkPairs(pairs);
    }

    private static void doubt() {
        int[][] pairs = {
            {2, 19999, 19999}, {2, 99991, 99991}, {2, 12999, 12345}, {2, 12999, 12999}, {2, 91929, 11222},
            {2, 99990, 0}, {2, 89998, 89998}, {1, 12399, 12399}, {0, 99999, 12345}, {0, 12999, 99345},
        };
        checkPairs(pairs);
    }

    private static void elseTwo() {
        int[][] pairs = {
            {0, 99999, 99999}, {0, 99999, 0}, {0, 19999, 91111}, {0, 12999, 99912}, {0, 19999, 29999},
            {0, 11111, 22222}, {0, 12999, 13999}, {0, 12345, 12340},
        };
        checkPairs(pairs);
    }

    private static void checkPairs(int[][] pairs) {
        for (int[] pair : pairs) {
            Town x = new Town();
            x.entry(0, pair[1]);
            x.entry(5, pair[2]);
            due(pair[1] + " and " + pair[2], x.same(0, 1), pair[0]);
            due(pair[2] + " and " + pair[1], x.same(1, 0), pair[0]);
            due("joined only if the same", x.joined(1), pair[0] == 1 ? 0 : 1);
        }
    }

    private static void throughOthers() {
        Town x = new Town();
        x.entry(0, 11999);
        x.entry(1, 11199);
        x.entry(2, 11999);
        x.entry(3, 99111);
        x.entry(4, 22222);
        for (int i = 0; i <= 4; i++) {
            due("alone", x.joined(i), i);
        }
        x.entry(5, 91119);
        due("two alike with 1, two with 3: doubt doesn't join", x.joined(5), 5);
        x.entry(5, 11119);
        due("with 1", x.joined(6), 1);
        x.entry(4, 91111);
        due("with 3, through which", x.joined(7), 1);
        due("3 is with 1", x.joined(3), 1);
        due("though nothing is known", x.same(1, 3), 2);
        due("doubt doesn't", x.joined(0), 0);
        due("nor here", x.joined(2), 2);
        due("nor two", x.joined(4), 4);
        groupsBecomeOne();
    }

    private static void groupsBecomeOne() {
        Town x = new Town();
        x.entry(0, 99111);
        x.entry(1, 11199);
        x.entry(2, 11199);
        x.entry(3, 99111);
        int[] before = {0, 1, 1, 0};
        for (int i = 0; i < before.length; i++) {
            due("entry " + i + " of two groups", x.joined(i), before[i]);
        }
        x.entry(0, 11111);
        for (int i = 0; i <= 4; i++) {
            due("entry " + i + " of one group", x.joined(i), 0);
        }
        due("differing ends", differingEnds(), 0);
    }

    private static int differingEnds() {
        Town x = new Town();
        x.entry(0, 11119);
        x.entry(1, 21119);
        due("they differ", x.same(0, 1), 0);
        due("and are apart", x.joined(1), 1);
        x.entry(2, 91119);
        due("they differ yet", x.same(0, 1), 0);
        return x.joined(1);
    }

    private static void ofOneCharity() {
        Town x = new Town();
        x.entry(3, 12345);
        x.entry(3, 12345);
        due("like ones of one charity", x.joined(1), 1);
        due("can't be asked for", x.same(0, 1), NONE);
        x.entry(2, 12399);
        due("through one of another", x.joined(1), 0);
        due("that other", x.joined(2), 0);
        due("can't be asked for yet", x.same(0, 1), NONE);
    }
}
