/** Where the document leaves room, README.md tells what was taken for its plainest words; this holds to it. */
public final class RoomTest extends Checks {
    private static final int LAST_WEEK = 1040;

    public static void main(String[] args) {
        sentence("A vote weighs what the subscriber gave until the vote", RoomTest::weightOfAVote);
        sentence("Cards are pooled by what is due in the week that ends", RoomTest::dueInThePool);
        sentence("In week 1040 no further week ends", RoomTest::lastWeek);
        sentence("A lost card that was given keeps its house", RoomTest::houseOfALostCard);
        end();
    }

    private static void weightOfAVote() {
        Town x = new Town().giver(5).giver(6);
        x.propose(0, 210010);
        x.vote(0, true);
        x.vote(1, false);
        x.give(0, 100);
        due("5 against 6, though 100 came before the closing", x.close(), 0);
        x.propose(0, 210010);
        x.give(1, 100);
        x.vote(1, false);
        x.vote(0, true);
        due("105 against 106, of which 100 came behind the proposal", x.close(), 0);
    }

    private static void dueInThePool() {
        Town x = new Town().giver(20).home(0, 0, 1).home(0, 0, 1).pass(0, 105004).pass(4, 100099);
        x.until(3);
        x.look(1, 4);
        due("the look tells too little in week 3", x.due(1), 0);
        x.go(1);
        due("enough in week 4", x.due(1), 1);
        due("both to the house to which something was due", x.told(0, 3), 2);
        Town then = new Town().giver(10).home(0, 0, 1).pass(4, 99).until(4);
        due("nothing is due in week 4", then.due(0), 0);
        due("but something was in week 3", then.card(0, 2), 0);
    }

    private static void lastWeek() {
        Town x = new Town().giver(20).home(0, 0, 9).home(0, 0, 1).until(LAST_WEEK);
        x.bowls(0, 30);
        due("bowls before", x.ward(0, 1), 30);
        due("a frost", x.frost(3), true);
        due("fed", x.show(0), 9);
        due("go 60", x.go(60), LAST_WEEK);
        due("bowls stay", x.ward(0, 1), 21);
        due("none is left", x.ward(0, 2), 0);
        due("the frost stays", x.forecast(0), 13);
        due("the house is fed in this week yet", x.told(0, 5), 1);
    }

    private static void houseOfALostCard() {
        Town x = new Town().giver(30).home(0, 0, 1).home(0, 0, 1).handed(0, 1).handed(1, 1);
        due("lost", x.lose(0), true);
        due("its house", x.card(0, 2), 1);
        due("got by it", x.told(1, 3), 2);
        due("one that was free is lost", x.lose(2), true);
        due("it has none", x.card(2, 2), NONE);
        x.give(0, 20);
        x.until(4);
        due("the lost one counts in the pool", x.told(0, 3), 2);
        due("so both went to the other house", x.told(1, 3), 2);
    }
}
