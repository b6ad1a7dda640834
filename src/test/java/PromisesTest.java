// Each promise of the document, one method a promise: ordinary inputs, the edges, and wrong inputs.
public final class PromisesTest {
    private static final int NONE = SoupTickets.NONE;
    private static final int[] WRONG = {-1, Integer.MIN_VALUE, Integer.MAX_VALUE};
    private static int promise = 0;
    private static int wrong = 0;

    private static void due(String call, int got, int want) {
        if (got != want) {
            wrong++;
            System.out.println("promise " + promise + ": " + call + " answered " + got + ", due is " + want);
        }
    }

    private static void due(String call, boolean got, boolean want) {
        due(call, got ? 1 : 0, want ? 1 : 0);
    }

    public static void main(String[] args) {
        promise1(); promise2(); promise3(); promise4(); promise5(); promise6(); promise7();
        promise8(); promise9(); promise10(); promise11(); promise12(); promise13(); promise14();
        promise15(); promise16(); promise17(); promise18(); promise19(); promise20(); promise21();
        promise22(); promise23(); promise24(); promise25(); promise26(); promise27(); promise28();
        System.out.println(wrong == 0 ? "all promises hold" : wrong + " answers are not as due");
        if (wrong != 0) {
            System.exit(1);
        }
    }

    /** Two subscribers (25 and 9 coins: cards 0 and 1) and two houses in ward 0 (2 + 3 and 1 + 0 folk). */
    private static SoupTickets town() {
        SoupTickets x = new SoupTickets();
        x.subscriber();
        x.subscriber();
        x.give(0, 25);
        x.give(1, 9);
        x.house(0, 10, 23);
        x.house(0, 50, 10);
        return x;
    }

    private static void pass(SoupTickets x, int week, int what) {
        due("propose to pass " + what, x.propose(week, what), true);
        due("vote to pass " + what, x.vote(0, true), true);
        due("close to pass " + what, x.close(), 1);
    }

    private static void promise1() {
        promise = 1;
        SoupTickets x = new SoupTickets();
        for (int what = 0; what <= 9; what++) {
            due("count(" + what + ") of a new one", x.count(what), 0);
        }
        for (int ward = 0; ward <= 5; ward++) {
            for (int what = 0; what <= 3; what++) {
                due("ward(" + ward + ", " + what + ") of a new one", x.ward(ward, what), 0);
            }
        }
        due("close of a new one", x.close(), NONE);
        due("NONE", SoupTickets.NONE, -1);
        SoupTickets other = town();
        due("a second object has its own", other.count(1), 2);
        due("the first one has none of it", x.count(1), 0);
    }

    private static void promise2() {
        promise = 2;
        SoupTickets x = new SoupTickets();
        for (int i = 0; i < 20; i++) {
            due("subscriber " + i, x.subscriber(), i);
        }
        due("subscriber 20", x.subscriber(), NONE);
        due("count(1)", x.count(1), 20);
        due("the last one gives", x.give(19, 10), 1);
        due("there is none behind the last", x.give(20, 10), NONE);
    }

    private static void promise3() {
        promise = 3;
        SoupTickets x = new SoupTickets();
        due("give of none", x.give(0, 10), NONE);
        x.subscriber();
        x.subscriber();
        due("give 0", x.give(0, 0), NONE);
        due("give 1001", x.give(0, 1001), NONE);
        for (int n : WRONG) {
            due("give " + n, x.give(0, n), NONE);
            due("give of " + n, x.give(n, 10), NONE);
        }
        due("give of 2", x.give(2, 10), NONE);
        due("give 9", x.give(0, 9), 0);
        due("give 1 of another", x.give(1, 1), 0);
        due("give 1 more", x.give(0, 1), 1);
        due("give 19", x.give(1, 19), 2);
        due("refused ones gave nothing", x.gave(0, 0), 10);
        due("card 0 is of", x.card(0, 1), 0);
        due("card 1 is of", x.card(1, 1), 1);
        due("give 1000", x.give(0, 1000), 100);
        due("give 1000", x.give(0, 1000), 100);
        due("give 1000", x.give(0, 1000), 100);
        due("give 979", x.give(0, 979), 97);
        due("give up to 401", x.give(0, 1), NONE);
        due("coins after a refusal", x.gave(0, 0), 3989);
        due("all cards", x.count(3), 400);
        due("the last card", x.card(399, 0), 0);
        due("none behind it", x.card(400, 0), NONE);
        due("give 9 at 400 cards", x.give(1, 9), 0);
        due("give 1 at 400 cards", x.give(1, 1), NONE);
        due("coins of 1", x.gave(1, 0), 29);
    }

    private static void promise4() {
        promise = 4;
        SoupTickets x = new SoupTickets();
        due("house", x.house(0, 0, 10), 0);
        due("house at the far edge", x.house(5, 99, 99), 1);
        due("no ward", x.house(6, 0, 10), NONE);
        due("no place", x.house(0, 100, 10), NONE);
        due("no grown", x.house(0, 0, 9), NONE);
        due("ten grown", x.house(0, 0, 100), NONE);
        for (int n : WRONG) {
            due("ward " + n, x.house(n, 0, 10), NONE);
            due("place " + n, x.house(0, n, 10), NONE);
            due("folk " + n, x.house(0, 0, n), NONE);
        }
        due("count after refusals", x.count(2), 2);
        due("due to 1 + 0", x.due(0), 1);
        due("due to 9 + 9", x.due(1), 18);
        for (int i = 2; i < 30; i++) {
            due("house " + i, x.house(i % 6, i, 10 + i), i);
        }
        due("house 30", x.house(0, 0, 10), NONE);
        due("the last house", x.told(29, 0), 5);
        due("none behind it", x.told(30, 0), NONE);
        due("houses 1, 5, 11, 17, 23 and 29 of ward 5", x.forecast(5), 18 + (1 + 5) + (2 + 1) + (2 + 7) + (3 + 3) + (3 + 9));
        due("count(2)", x.count(2), 30);
    }

    private static void promise5() {
        promise = 5;
        SoupTickets x = town();
        due("no house", x.look(2, 5), false);
        due("need 10", x.look(0, 10), false);
        for (int n : WRONG) {
            due("house " + n, x.look(n, 5), false);
            due("need " + n, x.look(0, n), false);
        }
        due("no look yet", x.told(0, 1), NONE);
        due("look 0", x.look(0, 0), true);
        due("need", x.told(0, 1), 0);
        due("look 9 in the same week", x.look(0, 9), true);
        due("the later one counts", x.told(0, 1), 9);
        due("other house", x.told(1, 1), NONE);
        x.go(3);
        due("look later", x.look(0, 4), true);
        due("its week", x.told(0, 2), 3);
        due("wrong look later", x.look(0, 10), false);
        due("need stays", x.told(0, 1), 4);
    }

    private static void promise6() {
        promise = 6;
        SoupTickets x = town();
        due("no house", x.hand(0, 2), false);
        due("no card", x.hand(2, 0), false);
        for (int n : WRONG) {
            due("card " + n, x.hand(n, 0), false);
            due("house " + n, x.hand(0, n), false);
        }
        due("free yet", x.card(0, 0), 0);
        due("hand", x.hand(0, 1), true);
        due("given", x.card(0, 0), 1);
        due("to house", x.card(0, 2), 1);
        due("got", x.told(1, 3), 1);
        due("again", x.hand(0, 0), false);
        due("to house yet", x.card(0, 2), 1);
        due("got nothing", x.told(0, 3), 0);
        due("lose", x.lose(1), true);
        due("hand a lost one", x.hand(1, 0), false);
        x.store(0, 300);
        x.cook(0, 1);
        due("use", x.show(0), 1);
        due("hand a used one", x.hand(0, 0), false);
    }

    private static void promise7() {
        promise = 7;
        SoupTickets x = town();
        x.give(0, 15);
        due("lose a free one", x.lose(0), true);
        due("again", x.lose(0), false);
        due("state", x.card(0, 0), 3);
        due("hand", x.hand(1, 1), true);
        due("lose a given one", x.lose(1), true);
        due("state", x.card(1, 0), 3);
        due("got stays", x.told(1, 3), 1);
        x.store(0, 3000);
        x.cook(0, 10);
        due("show a lost one", x.show(1), NONE);
        due("a lost one is no double", x.card(1, 5), 0);
        due("hand", x.hand(2, 1), true);
        due("show", x.show(2), 1);
        due("lose a used one", x.lose(2), false);
        due("state", x.card(2, 0), 2);
        due("no card", x.lose(4), false);
        for (int n : WRONG) {
            due("card " + n, x.lose(n), false);
        }
        due("lost", x.count(6), 2);
    }

    private static void promise8() {
        promise = 8;
        SoupTickets x = town();
        due("holds 0", x.propose(0, 110000), false);
        due("holds 100", x.propose(0, 110100), false);
        due("holds 999", x.propose(0, 110999), false);
        due("grown 10", x.propose(0, 1000010), false);
        due("week 1041", x.propose(1041, 110010), false);
        for (int n : WRONG) {
            due("week " + n, x.propose(n, 110010), false);
            due("what " + n, x.propose(0, n), false);
        }
        due("none is open after refusals", x.close(), NONE);
        due("greatest", x.propose(1040, 999099), true);
        due("a second", x.propose(0, 110010), false);
        due("close", x.close(), 0);
        due("least", x.propose(0, 1), true);
        due("close", x.close(), 0);
        x.go(5);
        due("before NOW", x.propose(4, 110010), false);
        due("NOW", x.propose(5, 110010), true);
        due("close", x.close(), 0);
        for (int i = 0; i < 40; i++) {
            pass(x, 5, 210010);
        }
        due("passed", x.count(8), 40);
        due("a 41st", x.propose(5, 210010), false);
        due("none is open", x.close(), NONE);
        ruleParts();
    }

    private static void ruleParts() {
        SoupTickets x = town();
        pass(x, 0, 324001);
        due("3 a grown, 2 a child", x.due(0), 12);
        x.look(0, 3);
        due("need 3 is below 4", x.due(0), 0);
        x.look(0, 4);
        due("need 4 isn't", x.due(0), 12);
        x.look(0, 3);
        x.go(1);
        due("it held one week", x.due(0), 12);
    }

    private static void promise9() {
        promise = 9;
        SoupTickets x = town();
        due("none is open", x.vote(0, true), false);
        x.propose(0, 210010);
        due("no subscriber", x.vote(2, true), false);
        for (int n : WRONG) {
            due("subscriber " + n, x.vote(n, true), false);
        }
        due("vote", x.vote(0, false), true);
        due("again", x.vote(0, true), false);
        due("another", x.vote(1, true), true);
        due("9 for, 25 against", x.close(), 0);
        due("closed", x.vote(1, true), false);
        x.propose(0, 210010);
        due("a vote for each proposal", x.vote(0, true), true);
        due("9 against", x.vote(1, false), true);
        due("25 for", x.close(), 1);
        due("passed", x.due(1), 2);
        weights();
    }

    private static void weights() {
        SoupTickets x = town();
        x.propose(0, 210010);
        due("9 for", x.vote(1, true), true);
        x.give(1, 100);
        due("25 against", x.vote(0, false), true);
        due("coins after the vote aren't in it", x.close(), 0);
        x.propose(0, 210010);
        due("109 for", x.vote(1, true), true);
        due("25 against", x.vote(0, false), true);
        due("coins before are", x.close(), 1);
        due("all coins, not the rest", x.gave(1, 0), 109);
        int late = x.subscriber();
        x.propose(0, 310010);
        due("one without coins votes", x.vote(late, true), true);
        due("once", x.vote(late, true), false);
        due("but weighs nothing", x.close(), 0);
        x.propose(0, 310010);
        int later = x.subscriber();
        due("one that came after the proposal", x.give(later, 5), 0);
        due("votes too", x.vote(later, true), true);
        due("and weighs", x.close(), 1);
    }

    private static void promise10() {
        promise = 10;
        SoupTickets x = town();
        due("none is open", x.close(), NONE);
        x.propose(0, 210010);
        due("nobody voted", x.close(), 0);
        due("closed", x.close(), NONE);
        x.give(1, 16);
        x.propose(0, 210010);
        x.vote(0, true);
        x.vote(1, false);
        due("25 for, 25 against", x.close(), 0);
        due("none passed", x.count(8), 0);
        due("the usual", x.due(1), 1);
        x.propose(0, 210010);
        x.vote(0, true);
        due("passed", x.close(), 1);
        due("one passed", x.count(8), 1);
        due("in force", x.due(1), 2);
        x.propose(0, 310010);
        x.vote(0, true);
        due("not in force before it is closed", x.due(1), 2);
        x.go(2);
        due("closed in a later week", x.close(), 1);
        due("in force", x.due(1), 3);
    }

    private static void promise11() {
        promise = 11;
        SoupTickets x = town();
        due("no house", x.due(2), NONE);
        for (int n : WRONG) {
            due("house " + n, x.due(n), NONE);
        }
        due("usual", x.due(0), 5);
        x.look(0, 0);
        due("usual least need is 0", x.due(0), 5);
        pass(x, 0, 215003);
        due("need 0 is below 5", x.due(0), 0);
        due("nothing known is never against", x.due(1), 2);
        x.go(2);
        due("the look holds", x.due(0), 0);
        x.go(1);
        due("it holds no more", x.due(0), 7);
        x.look(0, 5);
        due("need 5", x.due(0), 7);
        x.look(0, 4);
        due("the latest", x.due(0), 0);
        rulesByWeek();
    }

    private static void rulesByWeek() {
        SoupTickets x = town();
        pass(x, 4, 410010);
        pass(x, 2, 210010);
        pass(x, 0, 910010);
        due("week 0", x.due(1), 9);
        x.go(1);
        due("week 1", x.due(1), 9);
        x.go(1);
        due("week 2", x.due(1), 2);
        pass(x, 4, 510010);
        x.go(1);
        due("week 3", x.due(1), 2);
        x.go(1);
        due("of like ones the latest passed", x.due(1), 5);
        pass(x, 1040, 110010);
        x.go(60);
        due("week 64", x.due(1), 5);
        x.propose(64, 710010);
        x.vote(0, true);
        x.go(1);
        due("closed when its week is over", x.close(), 1);
        due("week 65", x.due(1), 7);
        pass(x, 66, 810010);
        pass(x, 65, 610010);
        due("week 65 with its own", x.due(1), 6);
        x.go(1);
        due("week 66", x.due(1), 8);
        SoupTickets zero = town();
        pass(zero, 0, 1);
        due("no bowls at all", zero.due(0), 0);
        SoupTickets held = town();
        held.look(0, 0);
        held.go(9);
        pass(held, 9, 111010);
        due("9 weeks below 10", held.due(0), 0);
        held.go(1);
        due("10 weeks aren't", held.due(0), 5);
        pass(held, 10, 111011);
        due("how long it holds is by the rule of NOW", held.due(0), 0);
    }

    private static void promise12() {
        promise = 12;
        SoupTickets x = new SoupTickets();
        due("store", x.store(0, 1), 1);
        due("store most", x.store(0, 100000), 100001);
        due("too much", x.store(0, 100001), NONE);
        due("nothing", x.store(0, 0), NONE);
        due("no ward", x.store(6, 1), NONE);
        for (int n : WRONG) {
            due("ward " + n, x.store(n, 1), NONE);
            due("grams " + n, x.store(0, n), NONE);
        }
        due("grams", x.ward(0, 0), 100001);
        due("other ward", x.store(5, 7), 7);
        for (int i = 2; i <= 9; i++) {
            due("store " + i, x.store(0, 100000), i * 100000 + 1);
        }
        due("one too many", x.store(0, 100000), NONE);
        due("up to the brim", x.store(0, 99999), 1000000);
        due("over it", x.store(0, 1), NONE);
        due("stays", x.ward(0, 0), 1000000);
    }

    private static void promise13() {
        promise = 13;
        SoupTickets x = new SoupTickets();
        x.house(0, 0, 99);
        x.house(1, 0, 99);
        due("frost 10", x.frost(10), false);
        for (int n : WRONG) {
            due("frost " + n, x.frost(n), false);
        }
        due("none yet", x.forecast(0), 18);
        due("frost 9", x.frost(9), true);
        due("ward 0", x.forecast(0), 27);
        due("ward 1", x.forecast(1), 27);
        due("frost 10", x.frost(10), false);
        due("stays", x.forecast(0), 27);
        due("frost 2", x.frost(2), true);
        due("the later one", x.forecast(0), 20);
        x.go(0);
        due("no week ended", x.forecast(0), 20);
        x.go(1);
        due("0 as a week begins", x.forecast(0), 18);
        x.frost(3);
        due("frost 0", x.frost(0), true);
        due("none", x.forecast(0), 18);
    }

    private static void promise14() {
        promise = 14;
        SoupTickets x = town();
        due("no ward", x.forecast(6), NONE);
        for (int n : WRONG) {
            due("ward " + n, x.forecast(n), NONE);
        }
        due("sum", x.forecast(0), 6);
        due("no house there", x.forecast(1), 0);
        x.house(0, 0, 99);
        x.house(1, 0, 99);
        x.frost(9);
        due("tenth of 24 is cut to 2", x.forecast(0), 42);
        due("tenth of 18 is cut to 1", x.forecast(1), 27);
        due("a tenth of 0", x.forecast(2), 0);
        x.frost(0);
        pass(x, 0, 111010);
        x.look(2, 0);
        due("what isn't due isn't in it", x.forecast(0), 6);
        x.hand(0, 0);
        x.store(0, 3000);
        x.cook(0, 10);
        due("feed", x.show(0), 5);
        due("a fed house stays in it", x.forecast(0), 6);
    }

    private static void promise15() {
        promise = 15;
        SoupTickets x = new SoupTickets();
        due("nothing there", x.cook(0, 1), NONE);
        x.store(0, 899);
        due("3 bowls of 899", x.cook(0, 3), NONE);
        due("2 bowls of 899", x.cook(0, 2), 2);
        due("grams", x.ward(0, 0), 299);
        due("1 of 299", x.cook(0, 1), NONE);
        x.store(0, 1);
        due("1 of 300", x.cook(0, 1), 3);
        due("grams", x.ward(0, 0), 0);
        for (int i = 0; i < 9; i++) {
            x.store(1, 100000);
        }
        due("0 bowls", x.cook(1, 0), NONE);
        due("2001 bowls", x.cook(1, 2001), NONE);
        due("no ward", x.cook(6, 1), NONE);
        for (int n : WRONG) {
            due("ward " + n, x.cook(n, 1), NONE);
            due("bowls " + n, x.cook(1, n), NONE);
        }
        // 14316558 * 300 is 104 in an int
        due("so many that grams wrap", x.cook(1, 14316558), NONE);
        due("nothing was taken", x.ward(1, 0), 900000);
        due("2000 bowls", x.cook(1, 2000), 2000);
        due("grams", x.ward(1, 0), 300000);
        due("1000 more", x.cook(1, 1000), 3000);
        due("ward 0 has its own", x.ward(0, 1), 3);
    }

    private static void promise16() {
        promise = 16;
        SoupTickets x = town();
        x.give(0, 100);
        due("no card", x.show(99), NONE);
        for (int n : WRONG) {
            due("card " + n, x.show(n), NONE);
        }
        x.store(0, 100000);
        x.store(1, 100000);
        x.cook(1, 100);
        due("a free card", x.show(0), NONE);
        due("no double", x.count(7), 0);
        x.hand(0, 0);
        due("no bowls in the ward of the house", x.show(0), NONE);
        due("4 bowls", x.cook(0, 4), 4);
        due("5 due", x.show(0), NONE);
        due("it stays", x.card(0, 0), 1);
        due("5 bowls", x.cook(0, 1), 5);
        due("show", x.show(0), 5);
        due("used", x.card(0, 0), 2);
        due("none left", x.ward(0, 1), 0);
        due("show again", x.show(0), NONE);
        due("and again", x.show(0), NONE);
        due("doubles", x.card(0, 5), 2);
        x.cook(0, 50);
        x.hand(1, 0);
        due("fed in this week", x.show(1), NONE);
        due("no double", x.card(1, 5), 0);
        x.hand(2, 1);
        due("the other house", x.show(2), 1);
        x.go(1);
        due("bowls of last week are gone", x.show(1), NONE);
        x.cook(0, 50);
        due("next week", x.show(1), 5);
        showNothingDue();
    }

    private static void showNothingDue() {
        SoupTickets x = town();
        pass(x, 0, 115010);
        x.look(0, 4);
        x.hand(0, 0);
        x.hand(1, 0);
        due("nothing is due, before bowls are asked for", x.show(0), 0);
        due("it stays", x.card(0, 0), 1);
        due("not fed", x.told(0, 5), 0);
        x.store(0, 3000);
        x.cook(0, 10);
        x.look(0, 5);
        due("due again", x.show(0), 5);
        x.look(0, 4);
        due("fed comes before nothing due", x.show(1), NONE);
    }

    private static void promise17() {
        promise = 17;
        SoupTickets x = town();
        due("go 0", x.go(0), 0);
        due("go 61", x.go(61), NONE);
        for (int n : WRONG) {
            due("go " + n, x.go(n), NONE);
        }
        due("NOW", x.count(0), 0);
        x.store(0, 3000);
        x.cook(0, 7);
        due("go 0 ends no week", x.go(0), 0);
        due("bowls are there", x.ward(0, 1), 7);
        due("go 1", x.go(1), 1);
        due("left", x.ward(0, 2), 7);
        due("bowls are gone", x.ward(0, 1), 0);
        due("go 60", x.go(60), 61);
        due("left but once", x.ward(0, 2), 7);
        pools();
        poolOrder();
        lastWeek();
    }

    private static void pools() {
        SoupTickets x = town();
        x.give(0, 15);
        x.lose(1);
        due("week 3 begins", x.go(3), 3);
        due("still free", x.count(4), 3);
        due("week 3 ends", x.go(1), 4);
        due("none free", x.count(4), 0);
        due("card 0", x.card(0, 2), 0);
        due("a lost card stays", x.card(1, 2), NONE);
        due("card 2", x.card(2, 2), 1);
        due("card 3", x.card(3, 2), 0);
        x.give(0, 10);
        due("week 7", x.go(3), 7);
        due("still free", x.card(4, 0), 0);
        due("week 8", x.go(1), 8);
        due("to the one that got least", x.card(4, 2), 1);
        SoupTickets none = new SoupTickets();
        none.subscriber();
        none.give(0, 20);
        due("no house", none.go(4), 4);
        due("nobody gets them", none.count(4), 2);
        none.house(3, 3, 20);
        due("week 8", none.go(4), 8);
        due("the next pool", none.told(0, 3), 2);
    }

    private static void poolOrder() {
        SoupTickets x = town();
        x.house(4, 0, 30);
        pass(x, 0, 115099);
        pass(x, 4, 111099);
        x.look(0, 4);
        x.look(1, 4);
        x.look(2, 4);
        x.go(3);
        due("nothing is due to any", x.due(2), 0);
        x.go(1);
        due("by the rule of the week that ended", x.count(4), 2);
        due("due by the next one", x.due(2), 3);
        x.look(1, 0);
        x.hand(0, 0);
        x.go(4);
        due("card 1 to the house with something due that got least", x.card(1, 2), 2);
        due("none to the one without", x.told(1, 3), 0);
        SoupTickets all = town();
        all.hand(0, 0);
        all.lose(0);
        all.go(60);
        due("a lost one counts as got", all.card(1, 2), 1);
    }

    private static void lastWeek() {
        SoupTickets x = town();
        for (int i = 1; i <= 17; i++) {
            due("go 60", x.go(60), i * 60);
        }
        due("1040 at most", x.go(60), 1040);
        x.store(0, 3000);
        x.cook(0, 7);
        x.frost(9);
        due("no week ends any more", x.go(60), 1040);
        due("bowls stay", x.ward(0, 1), 7);
        due("go 61", x.go(61), NONE);
        due("propose for the last", x.propose(1040, 110010), true);
    }

    private static void promise18() {
        promise = 18;
        SoupTickets x = new SoupTickets();
        due("no ward", x.visitor(6, 0, 1), NONE);
        due("no place", x.visitor(0, 100, 1), NONE);
        due("0 houses", x.visitor(0, 0, 0), NONE);
        due("9 houses", x.visitor(0, 0, 9), NONE);
        for (int n : WRONG) {
            due("ward " + n, x.visitor(n, 0, 1), NONE);
            due("place " + n, x.visitor(0, n, 1), NONE);
            due("many " + n, x.visitor(0, 0, n), NONE);
        }
        due("visitor 0", x.visitor(0, 0, 1), 0);
        due("visitor 1", x.visitor(5, 99, 8), 1);
        due("visitor 2", x.visitor(0, 0, 1), 2);
        due("visitor 3", x.visitor(0, 0, 1), 3);
        due("visitor 4", x.visitor(0, 0, 1), NONE);
    }

    private static void promise19() {
        promise = 19;
        SoupTickets x = new SoupTickets();
        due("no house", x.visits(0), NONE);
        for (int n : WRONG) {
            due("house " + n, x.visits(n), NONE);
        }
        x.house(0, 10, 10);
        due("no visitor", x.visits(0), NONE);
        x.visitor(1, 10, 8);
        due("none of that ward", x.visits(0), NONE);
        x.visitor(0, 99, 1);
        due("the only one", x.visits(0), 1);
        x.visitor(0, 20, 1);
        x.visitor(0, 0, 1);
        due("of like ones the first", x.visits(0), 2);
        x.house(0, 12, 10);
        due("one each: 10 - 0, 12 - 20", x.visits(0), 3);
        due("the other", x.visits(1), 2);
        x.look(0, 0);
        due("a look that holds", x.visits(0), NONE);
        due("the other", x.visits(1), 2);
        x.go(9);
        due("it holds 10 weeks by the usual rule", x.visits(0), NONE);
        x.go(1);
        due("it holds no more", x.visits(0), 3);
        mostAreVisited();
        sixAtMost();
    }

    private static void mostAreVisited() {
        SoupTickets x = new SoupTickets();
        x.house(3, 0, 10);
        x.house(3, 0, 10);
        x.house(3, 50, 10);
        x.visitor(3, 0, 1);
        x.visitor(3, 99, 1);
        due("most first, then the least sum", x.visits(0), 0);
        due("none behind all", x.visits(1), NONE);
        due("far away, but it is one more", x.visits(2), 1);
        due("sum", x.far(3), 49);
        x.visitor(3, 99, 8);
        due("now all", x.visits(1), 1);
        due("visitor 2 behind visitor 1", x.visits(2), 2);
        due("sum", x.far(3), 148);
    }

    private static void sixAtMost() {
        SoupTickets x = new SoupTickets();
        x.visitor(2, 0, 8);
        for (int i = 0; i < 6; i++) {
            x.house(2, i, 10);
        }
        for (int i = 0; i < 6; i++) {
            due("six: house " + i, x.visits(i), 0);
        }
        x.house(2, 6, 10);
        due("seven", x.visits(0), NONE);
        x.house(1, 6, 10);
        due("another ward, without a visitor", x.visits(7), NONE);
        x.look(3, 9);
        due("six without a look", x.visits(6), 0);
    }

    private static void promise20() {
        promise = 20;
        SoupTickets x = new SoupTickets();
        due("no house", x.far(0), NONE);
        due("no ward", x.far(6), NONE);
        for (int n : WRONG) {
            due("ward " + n, x.far(n), NONE);
        }
        x.visitor(0, 50, 2);
        due("a visitor, but no house", x.far(0), NONE);
        x.house(0, 99, 10);
        due("one", x.far(0), 49);
        x.house(0, 0, 10);
        due("two", x.far(0), 99);
        x.house(0, 40, 10);
        due("three, of which two", x.far(0), 59);
        x.visitor(0, 45, 1);
        due("three: 49 + 50 + 5 or 49 + 45 + 10", x.far(0), 104);
        due("the first of like ones", x.visits(1), 0);
        x.house(1, 0, 10);
        due("no visitor there", x.far(1), 0);
        x.look(3, 1);
        due("no house to visit", x.far(1), NONE);
        x.house(0, 41, 10);
        x.house(0, 42, 10);
        x.house(0, 43, 10);
        due("six, of which three: 4 + 8 + 7", x.far(0), 4 + 8 + 7);
        x.house(0, 44, 10);
        due("seven", x.far(0), NONE);
        x.look(0, 1);
        due("six again: 3 + 7 + 6", x.far(0), 3 + 7 + 6);
        farApart();
    }

    private static void farApart() {
        SoupTickets x = new SoupTickets();
        x.visitor(4, 0, 8);
        for (int i = 0; i < 6; i++) {
            x.house(4, 99, 10);
        }
        due("the greatest sum", x.far(4), 6 * 99);
        due("and its visitor", x.visits(5), 0);
    }

    private static void promise21() {
        promise = 21;
        SoupTickets x = new SoupTickets();
        due("no charity", x.entry(6, 0), NONE);
        due("six digits", x.entry(0, 100000), NONE);
        for (int n : WRONG) {
            due("charity " + n, x.entry(n, 0), NONE);
            due("marks " + n, x.entry(0, n), NONE);
        }
        due("count after refusals", x.count(9), 0);
        due("zeros ahead", x.entry(0, 0), 0);
        due("all zeros too", x.entry(5, 0), 1);
        due("zeros are known marks", x.same(0, 1), 1);
        due("all unknown", x.entry(5, 99999), 2);
        for (int i = 3; i < 60; i++) {
            due("entry " + i, x.entry(i % 6, i), i);
        }
        due("entry 60", x.entry(0, 0), NONE);
        due("none behind the last", x.joined(60), NONE);
        due("count(9)", x.count(9), 60);
    }

    private static void promise22() {
        promise = 22;
        SoupTickets x = new SoupTickets();
        x.entry(0, 12399);
        x.entry(1, 12345);
        x.entry(1, 12999);
        x.entry(2, 91299);
        x.entry(2, 99945);
        x.entry(3, 12344);
        x.entry(4, 99999);
        x.entry(0, 12399);
        x.entry(5, 19999);
        due("three alike", x.same(0, 1), 1);
        due("the other way round", x.same(1, 0), 1);
        due("two alike", x.same(0, 2), 2);
        due("one alike", x.same(0, 8), 2);
        due("one differs", x.same(0, 3), 0);
        due("none known of both", x.same(0, 4), 0);
        due("four alike, one differs", x.same(1, 5), 0);
        due("nothing known", x.same(1, 6), 0);
        due("one charity", x.same(0, 7), NONE);
        due("both are one", x.same(1, 1), NONE);
        due("no such b", x.same(0, 9), NONE);
        due("no such a", x.same(9, 0), NONE);
        for (int n : WRONG) {
            due("a " + n, x.same(n, 0), NONE);
            due("b " + n, x.same(0, n), NONE);
        }
        x.entry(0, 1);
        x.entry(1, 1);
        due("zeros ahead are alike", x.same(9, 10), 1);
    }

    private static void promise23() {
        promise = 23;
        SoupTickets x = new SoupTickets();
        due("none", x.joined(0), NONE);
        x.entry(0, 11199);
        x.entry(1, 22299);
        x.entry(0, 11199);
        x.entry(2, 11999);
        due("itself", x.joined(0), 0);
        due("one charity alone isn't joined", x.joined(2), 2);
        due("doubt doesn't join", x.joined(3), 3);
        x.entry(1, 11199);
        due("through another of one charity", x.joined(2), 0);
        due("that other", x.joined(4), 0);
        due("the rest", x.joined(1), 1);
        due("no such one", x.joined(5), NONE);
        for (int n : WRONG) {
            due("entry " + n, x.joined(n), NONE);
        }
        SoupTickets chain = new SoupTickets();
        chain.entry(0, 99111);
        chain.entry(1, 99222);
        chain.entry(2, 11199);
        chain.entry(3, 22299);
        due("apart", chain.joined(2), 2);
        chain.entry(4, 11111);
        due("two groups become one", chain.joined(2), 0);
        due("the other pair stays", chain.joined(3), 3);
        chain.entry(5, 22222);
        due("and is joined by its own", chain.joined(3), 1);
        due("the newest", chain.joined(5), 1);
        due("differing marks may be joined through others", differingEnds(), 0);
    }

    private static int differingEnds() {
        SoupTickets x = new SoupTickets();
        x.entry(0, 11119);
        x.entry(1, 91112);
        x.entry(2, 91119);
        x.entry(3, 21119);
        due("ends differ", x.same(0, 3), 0);
        return x.joined(3);
    }

    private static void promise24() {
        promise = 24;
        SoupTickets x = town();
        x.give(1, 1);
        int[] free = {0, 1, NONE, NONE, 0, 0};
        for (int what = 0; what <= 5; what++) {
            due("free: what " + what, x.card(2, what), free[what]);
        }
        x.go(1);
        x.hand(2, 1);
        int[] given = {1, 1, 1, NONE, 0, 0};
        for (int what = 0; what <= 5; what++) {
            due("given: what " + what, x.card(2, what), given[what]);
        }
        x.store(0, 300);
        x.cook(0, 1);
        x.go(0);
        x.show(2);
        x.show(2);
        int[] used = {2, 1, 1, 1, 1, 1};
        for (int what = 0; what <= 5; what++) {
            due("used: what " + what, x.card(2, what), used[what]);
        }
        x.lose(0);
        due("lost", x.card(0, 0), 3);
        due("what 6", x.card(0, 6), NONE);
        due("no card", x.card(3, 0), NONE);
        for (int n : WRONG) {
            due("card " + n, x.card(n, 0), NONE);
            due("what " + n, x.card(0, n), NONE);
        }
    }

    private static void promise25() {
        promise = 25;
        SoupTickets x = town();
        x.house(5, 9, 12);
        int[] fresh = {5, NONE, NONE, 0, 0, 0};
        for (int what = 0; what <= 5; what++) {
            due("new: what " + what, x.told(2, what), fresh[what]);
        }
        x.go(2);
        x.look(0, 7);
        x.hand(0, 0);
        x.hand(1, 0);
        x.store(0, 100000);
        x.cook(0, 100);
        x.show(0);
        int[] fed = {0, 7, 2, 2, 5, 1};
        for (int what = 0; what <= 5; what++) {
            due("fed: what " + what, x.told(0, what), fed[what]);
        }
        x.go(1);
        due("not fed in the next week", x.told(0, 5), 0);
        x.cook(0, 100);
        x.show(1);
        due("bowls ever", x.told(0, 4), 10);
        x.go(20);
        due("a look that holds no more is told yet", x.told(0, 1), 7);
        due("what 6", x.told(0, 6), NONE);
        due("no house", x.told(3, 0), NONE);
        for (int n : WRONG) {
            due("house " + n, x.told(n, 0), NONE);
            due("what " + n, x.told(0, n), NONE);
        }
    }

    private static void promise26() {
        promise = 26;
        SoupTickets x = town();
        int[] first = {25, 2, 0, 0};
        int[] second = {9, 0, 0, 0};
        for (int what = 0; what <= 3; what++) {
            due("0: what " + what, x.gave(0, what), first[what]);
            due("1: what " + what, x.gave(1, what), second[what]);
        }
        x.give(1, 1);
        x.hand(0, 0);
        x.hand(1, 1);
        x.hand(2, 1);
        x.store(0, 100000);
        x.cook(0, 6);
        x.show(0);
        x.show(1);
        x.go(1);
        x.cook(0, 1);
        x.show(2);
        x.show(2);
        int[] firstThen = {25, 2, 2, 6};
        int[] secondThen = {10, 1, 1, 1};
        for (int what = 0; what <= 3; what++) {
            due("0 then: what " + what, x.gave(0, what), firstThen[what]);
            due("1 then: what " + what, x.gave(1, what), secondThen[what]);
        }
        due("what 4", x.gave(0, 4), NONE);
        due("no subscriber", x.gave(2, 0), NONE);
        for (int n : WRONG) {
            due("subscriber " + n, x.gave(n, 0), NONE);
            due("what " + n, x.gave(0, n), NONE);
        }
    }

    private static void promise27() {
        promise = 27;
        SoupTickets x = town();
        x.store(0, 10000);
        x.store(1, 1000);
        x.cook(0, 8);
        x.cook(1, 3);
        x.hand(0, 0);
        x.show(0);
        int[] before = {7600, 3, 0, 5};
        for (int what = 0; what <= 3; what++) {
            due("before: what " + what, x.ward(0, what), before[what]);
        }
        x.go(1);
        x.cook(0, 2);
        x.go(1);
        int[] behind = {7000, 0, 5, 5};
        for (int what = 0; what <= 3; what++) {
            due("behind: what " + what, x.ward(0, what), behind[what]);
        }
        due("left of ward 1", x.ward(1, 2), 3);
        due("eaten in ward 1", x.ward(1, 3), 0);
        due("grams of ward 1", x.ward(1, 0), 100);
        due("what 4", x.ward(0, 4), NONE);
        due("no ward", x.ward(6, 0), NONE);
        for (int n : WRONG) {
            due("ward " + n, x.ward(n, 0), NONE);
            due("what " + n, x.ward(0, n), NONE);
        }
    }

    private static void promise28() {
        promise = 28;
        SoupTickets x = town();
        x.give(0, 45);
        x.hand(0, 0);
        x.hand(1, 1);
        x.hand(2, 1);
        x.lose(3);
        x.lose(2);
        x.store(0, 10000);
        x.cook(0, 30);
        x.show(0);
        x.show(0);
        x.show(1);
        x.show(1);
        x.show(1);
        x.go(2);
        pass(x, 2, 210010);
        x.propose(3, 310010);
        x.entry(0, 1);
        x.entry(0, 1);
        x.entry(0, 1);
        int[] counts = {2, 2, 2, 7, 3, 2, 2, 3, 1, 3};
        for (int what = 0; what <= 9; what++) {
            due("count(" + what + ")", x.count(what), counts[what]);
        }
        due("count(10)", x.count(10), NONE);
        for (int n : WRONG) {
            due("count(" + n + ")", x.count(n), NONE);
        }
    }
}
