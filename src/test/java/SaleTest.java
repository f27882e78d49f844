/** Promises 18 to 20, 26 and 28: STAGES, sales, COIN by RANKS, SET ASIDE, COVER, DRAWN sales. */
public final class SaleTest {
    private static final String PEOPLE = "person 0 0;person 0 0;person 0 0;";

    public static void main(String[] args) {
        stages();
        sale();
        shares();
        coin();
        ranks();
        roundAndRound();
        aside();
        cover();
        coverTies();
        coverOfParts();
        drawn();
        drawnRefused();
        refusals();
        Check.end("SaleTest");
    }

    private static void stages() {
        ListedGoods x = Check.with(PEOPLE + "fee 0 1;fee 1 20;fee 3 99;", "");
        Check.due("to stage 1 through stage 0", 21, () -> x.stage(0, 1));
        Check.due("he is in it", 0, () -> x.stage(0, 1));
        Check.due("he was in it", 0, () -> x.stage(0, 0));
        Check.due("it stays the later one", 1, () -> x.person(0, 1));
        Check.due("a stage without a fee", 0, () -> x.stage(0, 2));
        Check.due("he came to it", 2, () -> x.person(0, 1));
        Check.due("the last", 99, () -> x.stage(0, 3));
        Check.due("all once", 120, () -> x.person(0, 2));
        Check.due("another one", 120, () -> x.stage(2, 3));
    }

    private static void sale() {
        ListedGoods x = Check.with(PEOPLE + "good 0 101 0;good 0 100 0;good 0 9 0;good 0 1 0;"
                + "claim 0 10 300;debt 0 5 0;", "");
        Check.due("not on the list", -3, () -> x.sell(0, 999, 300));
        x.take(0, 0, 0, 0);
        x.take(0, 1, 0, 0);
        x.take(0, 3, 200, 0);
        Check.due("less than half, rounded up", -1, () -> x.sell(0, 50, 299));
        Check.due("not sold by that", -1, () -> x.good(0, 4));
        Check.due("half, rounded up", 51, () -> x.sell(0, 51, 299));
        Check.due("sold", -3, () -> x.sell(0, 999, 300));
        Check.due("half", 50, () -> x.sell(1, 50, 0));
        Check.due("half of one is one", -1, () -> x.sell(3, 0, 0));
        Check.due("the most", 9999, () -> x.sell(3, 9999, 9999));
        Check.due("never on the list", -3, () -> x.sell(2, 9999, 9999));
        ListedGoods y = Check.with(PEOPLE + "good 0 101 0;claim 0 10 300;debt 0 5 0;debt 0 6 0;", "");
        y.take(0, 0, 0, 0);
        Check.due("proved ahead of too little", -2, () -> y.sell(0, 0, 300));
        Check.due("given back", 1, () -> y.good(0, 5));
        Check.due("not sold", -1, () -> y.good(0, 4));
        Check.due("given back once", -3, () -> y.sell(0, 200, 0));
        Check.due("not taken any more", -2, () -> y.take(1, 0, 0, 0));
        Check.due("no coin of it", 0, () -> y.person(0, 3));
    }

    private static void shares() {
        ListedGoods x = Check.with(PEOPLE + "good 0 10 0;part 0 1 5;part 0 2 1;debt 1 50 0;debt 2 50 0;debt 0 50 0;", "");
        x.take(0, 0, 0, 0);
        x.take(1, 0, 0, 0);
        x.take(2, 0, 0, 0);
        Check.due("the owner: 23 less 9 less 1", 13, () -> x.sell(0, 23, 0));
        Check.due("owner's coin", 13, () -> x.person(0, 3));
        Check.due("5 of 12 of 23, cut", 9, () -> x.person(1, 3));
        Check.due("1 of 12 of 23, cut", 1, () -> x.person(2, 3));
    }

    private static void coin() {
        ListedGoods x = Check.with(PEOPLE + "good 0 12 0;good 0 24 0;part 0 1 3;debt 1 50 0;debt 0 50 0;", "");
        x.take(0, 0, 0, 0);
        x.sell(0, 12, 0);
        Check.due("of a part, for his debt", 3, () -> x.person(1, 3));
        Check.due("not on the list for a debt of his", 0, () -> x.person(0, 3));
        x.take(1, 1, 0, 0);
        x.take(0, 1, 0, 0);
        x.sell(1, 24, 0);
        Check.due("his own", 24, () -> x.person(0, 3));
        Check.due("he has no part of it", 3, () -> x.person(1, 3));
        x.aside(0);
        Check.due("coin stays if the debt is set aside", 3, () -> x.person(1, 3));
        Check.due("and is his", 3, () -> x.person(1, 4));
    }

    private static void ranks() {
        ListedGoods x = Check.with(PEOPLE + "good 0 100 0;debt 0 30 9;debt 1 40 1;debt 0 20 5;debt 0 10 9;debt 0 7 3;"
                + "fee 0 6;fee 1 50;", "");
        x.take(0, 0, 0, 0);
        x.sell(0, 70, 0);
        Check.due("without fees: the last writ shares 43, whole", 30, () -> x.debt(0, 3));
        Check.due("whole", 10, () -> x.debt(3, 3));
        Check.due("what is left", 3, () -> x.person(0, 4));
        x.stage(0, 0);
        Check.due("64 less 7 less 20 is 37: 27 and a cut", 28, () -> x.debt(0, 3));
        Check.due("9 and a cut", 9, () -> x.debt(3, 3));
        Check.due("the earliest", 7, () -> x.debt(4, 3));
        Check.due("the next", 20, () -> x.debt(2, 3));
        Check.due("another's", 0, () -> x.debt(1, 3));
        Check.due("nothing left", 0, () -> x.person(0, 4));
        x.stage(0, 1);
        Check.due("14 less 7 is 7", 7, () -> x.debt(2, 3));
        Check.due("nothing for the last", 0, () -> x.debt(0, 3));
        ListedGoods y = Check.with(PEOPLE + "good 0 10 0;debt 0 30 9;fee 0 6;", "");
        y.take(0, 0, 0, 0);
        y.sell(0, 5, 0);
        y.stage(0, 0);
        Check.due("fees take all", 0, () -> y.debt(0, 3));
        Check.due("none is left, nor less than none", 0, () -> y.person(0, 4));
        Check.due("coin is told whole", 5, () -> y.person(0, 3));
    }

    private static void roundAndRound() {
        ListedGoods x = Check.with(PEOPLE + "good 0 10 0;" + "debt 0 7 4;debt 0 7 4;debt 0 1 4;debt 0 7 4;debt 0 7 4;", "");
        x.take(0, 0, 0, 0);
        x.sell(0, 27, 0);
        // 27 of 29: 6, 6, 0, 6, 6 (cut), and 3 over: one each to 0, 1, 2.
        int[] want = {7, 7, 1, 6, 6};
        for (int d = 0; d < 5; d++) {
            int dd = d;
            Check.due("debt " + d, want[d], () -> x.debt(dd, 3));
        }
        x.aside(0);
        int[] then = {0, 7, 1, 7, 7};
        for (int d = 0; d < 5; d++) {
            int dd = d;
            Check.due("then debt " + d, then[d], () -> x.debt(dd, 3));
        }
        Check.due("left", 5, () -> x.person(0, 4));
    }

    private static void aside() {
        ListedGoods x = Check.with(PEOPLE + "good 0 10 0;debt 0 7 4;debt 0 7 5;", "");
        x.take(0, 0, 0, 0);
        x.sell(0, 9, 0);
        Check.due("what it got", 2, () -> x.aside(1));
        Check.due("already", 0, () -> x.aside(1));
        Check.due("gets nothing", 0, () -> x.debt(1, 3));
        Check.due("left", 2, () -> x.person(0, 4));
        Check.due("the other", 7, () -> x.aside(0));
        Check.due("all left", 9, () -> x.person(0, 4));
    }

    private static void cover() {
        ListedGoods x = Check.with(PEOPLE + "good 0 50 0;good 0 30 1;good 0 21 0;good 0 20 0;debt 0 49 0;debt 0 999 0;fee 0 2;",
                "bar kind 1;");
        Check.due("50 is the least", 50, () -> x.cover(0, 0, 0, 0));
        Check.due("its bit", 1, () -> x.cover(0, 0, 0, 1));
        x.stage(0, 0);
        Check.due("with the fee 51 is due", 70, () -> x.cover(0, 0, 0, 0));
        Check.due("50 and 20", 9, () -> x.cover(0, 0, 0, 1));
        Check.due("no set does", -1, () -> x.cover(1, 0, 0, 0));
        Check.due("no bits", -1, () -> x.cover(1, 0, 0, 1));
        x.take(0, 3, 0, 0);
        Check.due("on the list it counts still", 9, () -> x.cover(0, 0, 0, 1));
        x.sell(3, 20, 0);
        Check.due("sold it does not", 5, () -> x.cover(0, 0, 0, 1));
        x.aside(0);
        Check.due("lawful is by rules alone", 71, () -> x.cover(0, 0, 0, 0));
        Check.law(x, "");
        Check.due("with the one that was barred", 51, () -> x.cover(0, 0, 0, 0));
        Check.due("30 and 21", 6, () -> x.cover(0, 0, 0, 1));
        Check.law(x, "bar forced;");
        Check.due("by a forced door none", -1, () -> x.cover(0, 0, 2, 0));
        ListedGoods y = Check.with(PEOPLE + "good 0 50 0;good 0 50 0;claim 0 0 5;debt 0 50 0;", "");
        y.take(0, 0, 0, 0);
        y.sell(0, 50, 5);
        Check.due("not given back", 2, () -> y.cover(0, 0, 0, 1));
    }

    private static void coverTies() {
        ListedGoods x = Check.with(PEOPLE + "good 0 10 0;good 0 20 0;good 0 30 0;good 0 30 0;debt 0 30 0;debt 0 55 0;"
                + "debt 0 85 0;debt 0 90 0;", "");
        Check.due("the fewest, then the least bits", 4, () -> x.cover(0, 0, 0, 1));
        Check.due("60 by two", 12, () -> x.cover(1, 0, 0, 1));
        Check.due("60", 60, () -> x.cover(1, 0, 0, 0));
        Check.due("90 by all", 15, () -> x.cover(3, 0, 0, 1));
        Check.due("all", 90, () -> x.cover(2, 0, 0, 0));
        ListedGoods y = Check.with(PEOPLE + "good0 1 0;".repeat(12) + "debt 0 12 0;debt 0 6 0;debt 0 13 0;", "");
        Check.due("all twelve", 4095, () -> y.cover(0, 0, 0, 1));
        Check.due("six, the least bits", 63, () -> y.cover(1, 0, 0, 1));
        Check.due("thirteen", -1, () -> y.cover(2, 0, 0, 1));
    }

    private static void coverOfParts() {
        ListedGoods x = Check.with(PEOPLE + "good 0 23 0;good 2 99 0;part 0 1 5;part 0 2 1;debt 0 13 0;debt 1 9 0;debt 1 10 0;"
                + "debt 2 100 0;debt 2 101 0;", "");
        Check.due("the owner's rest", 13, () -> x.cover(0, 0, 0, 0));
        Check.due("a part, cut", 9, () -> x.cover(1, 0, 0, 0));
        Check.due("no more than that", -1, () -> x.cover(2, 0, 0, 0));
        Check.due("of both", 100, () -> x.cover(3, 0, 0, 0));
        Check.due("both bits", 3, () -> x.cover(3, 0, 0, 1));
        Check.due("no more than both", -1, () -> x.cover(4, 0, 0, 1));
    }

    /* The draws of SEED 5, then of what it becomes. */
    private static int[] draws(int seed, int n) {
        int[] d = new int[n];
        long s = seed & 0xffffffffL;
        for (int i = 0; i < n; i++) {
            s = (s * 1103515245L + 12345L) % 4294967296L;
            d[i] = (int) (s / 65536 % 8);
        }
        return d;
    }

    private static void drawn() {
        String house = PEOPLE + "good 0 80 0;good 0 81 0;good 1 799 0;good 0 40 0;good 0 7 0;good 0 500 0;part 2 0 5;"
                + "claim 1 0 90;claim 3 0 91;debt 0 500 0;debt 1 500 0;";
        for (int seed : new int[] {5, 0, -1, 77777, Integer.MIN_VALUE, Integer.MAX_VALUE, 123456789}) {
            ListedGoods x = Check.with(house, "");
            x.take(0, 0, 0, 0);
            x.take(1, 0, 0, 0);
            x.take(0, 2, 0, 0);
            x.take(0, 3, 0, 0);
            x.take(1, 4, 0, 0);
            x.take(0, 5, 0, 0);
            x.take(0, 1, 90, 0);
            x.sell(5, 500, 0);
            int[] d = draws(seed, 4);
            int[] worth = {80, 799, 40, 7};
            int prices = 0;
            int refused = 0;
            int coin = 0;
            int other = 0;
            for (int i = 0; i < 4; i++) {
                int price = worth[i] * (2 + d[i]) / 8;
                if (2 * price < worth[i]) {
                    refused++;
                    continue;
                }
                prices += price;
                coin += i == 0 || i == 2 ? price : i == 1 ? price * 5 / 12 : 0;
            }
            Check.due("prices of seed " + seed, prices, () -> x.drawn(0, seed, 0));
            Check.due("refused of seed " + seed, refused, () -> x.drawn(0, seed, 1));
            Check.due("given back of seed " + seed, 1, () -> x.drawn(0, seed, 2));
            Check.due("coin of seed " + seed, coin, () -> x.drawn(0, seed, 3));
            Check.due("one who has no part of what is taken for his", other, () -> x.drawn(1, seed, 3));
            Check.due("one without debts", 0, () -> x.drawn(2, seed, 3));
            Check.due("nothing is sold by it", -1, () -> x.good(0, 4));
            Check.due("nothing is given back by it", 0, () -> x.good(1, 5));
            Check.due("no coin stays", 500, () -> x.person(0, 3));
        }
        ListedGoods y = Check.with(house, "");
        for (int what = 0; what < 4; what++) {
            int w = what;
            Check.due("nothing on the list", 0, () -> y.drawn(0, 5, w));
        }
    }

    private static void drawnRefused() {
        // Bits 16 to 18 of what SEED 0 becomes (12345) are 0: a quarter of the worth, which is refused.
        ListedGoods x = Check.with(PEOPLE + "good 0 800 0;debt 0 500 0;", "");
        x.take(0, 0, 0, 0);
        Check.due("refused", 1, () -> x.drawn(0, 0, 1));
        Check.due("no price of what is refused", 0, () -> x.drawn(0, 0, 0));
        Check.due("no coin of it", 0, () -> x.drawn(0, 0, 3));
    }

    private static void refusals() {
        ListedGoods x = Check.with(PEOPLE + "good 0 80 0;debt 0 500 0;", "");
        Check.refused("stage of none", Check.ABSENT, () -> x.stage(3, 9));
        Check.refused("stage of -1", Check.ABSENT, () -> x.stage(-1, 0));
        Check.refused("stage 4", Check.UNFIT, () -> x.stage(0, 4));
        Check.refused("stage -1", Check.UNFIT, () -> x.stage(0, -1));
        Check.refused("sell none", Check.ABSENT, () -> x.sell(1, -1, -1));
        Check.refused("sell -1", Check.ABSENT, () -> x.sell(-1, 0, 0));
        Check.refused("price -1", Check.UNFIT, () -> x.sell(0, -1, 0));
        Check.refused("price 10000", Check.UNFIT, () -> x.sell(0, 10000, 0));
        Check.refused("minute -1", Check.UNFIT, () -> x.sell(0, 0, -1));
        Check.refused("minute 10000", Check.UNFIT, () -> x.sell(0, 0, 10000));
        Check.refused("aside none", Check.ABSENT, () -> x.aside(1));
        Check.refused("aside -1", Check.ABSENT, () -> x.aside(-1));
        Check.refused("cover none", Check.ABSENT, () -> x.cover(1, -1, 0, 0));
        Check.refused("cover -1", Check.ABSENT, () -> x.cover(-1, 0, 0, 0));
        Check.refused("cover in -1", Check.UNFIT, () -> x.cover(0, -1, 0, 0));
        Check.refused("cover in 10000", Check.UNFIT, () -> x.cover(0, 10000, 0, 0));
        Check.refused("cover by 3", Check.UNFIT, () -> x.cover(0, 0, 3, 0));
        Check.refused("cover what 2", Check.UNFIT, () -> x.cover(0, 0, 0, 2));
        Check.refused("cover what -1", Check.UNFIT, () -> x.cover(0, 0, 0, -1));
        Check.refused("drawn none", Check.ABSENT, () -> x.drawn(3, 0, 9));
        Check.refused("drawn what 4", Check.UNFIT, () -> x.drawn(0, 0, 4));
        Check.refused("drawn what -1", Check.UNFIT, () -> x.drawn(0, 0, -1));
        Check.due("counted", 9, () -> x.status(0));
        Check.due("counted", 13, () -> x.status(1));
    }
}
