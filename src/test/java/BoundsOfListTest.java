/** The boundary cases of promises 15 to 20: the LIST, STAGES, sales, COIN, RANKS, SET ASIDE. */
public final class BoundsOfListTest {
    private static final String PEOPLE = "person 0 0;person 0 0;person 0 0;";
    private static final String PLAIN = PEOPLE + "good 0 9 0;good 0 8 1;good 0 1 0;debt 0 30 0;debt 0 20 0;debt 1 7 0;fee 0 4;";

    public static void main(String[] args) throws IllegalAccessException {
        Check.runAll(BoundsOfListTest.class);
    }

    private static ListedGoods plain() {
        ListedGoods x = Check.with(PLAIN, "bar kind 1;");
        x.take(0, 0, 50, 1);
        return x;
    }

    /* Six DEBTS, and 24 acts of four GOODS for them, in the MINUTES from 100 on. */
    private static ListedGoods full() {
        ListedGoods x = Check.with("person 0 0;" + "good0 5 0;".repeat(6) + "good0 5 1;" + "debt0 1 0;".repeat(6), "bar kind 1;");
        for (int i = 0; i < 24; i++) {
            x.take(i % 6, i / 6, 100 + i, 0);
        }
        return x;
    }

    /* ---- promise 15 ---- */

    static void taken() {
        Check.sentence("TAKEN: its number on the LIST (from 0 on)");
        ListedGoods x = Check.with(PLAIN, "");
        Check.due("the first, in the first minute", 0, () -> x.take(0, 0, 0, 0));
        Check.due("the second, in the same", 1, () -> x.take(0, 1, 0, 1));
        Check.due("the third, in the last", 2, () -> x.take(0, 2, 9999, 2));
        Check.due("one more in the last", 3, () -> x.take(1, 2, 9999, 0));
        Check.due("four", 4, () -> x.told(4));
    }

    static void barred() {
        Check.sentence("-1: it is BARRED");
        ListedGoods x = plain();
        String before = Check.all(x);
        Check.due("barred", -1, () -> x.take(0, 1, 50, 0));
        Check.same("all stays", before, Check.all(x));
        Check.due("it is no refusal", 0, () -> x.status(0) + x.status(1) + x.status(2));
        ListedGoods y = Check.with(PLAIN + "ill 0 60;claim 0 60 60;", "bar ill;bar proved;");
        Check.due("by what is known then alone", 0, () -> y.take(0, 0, 59, 0));
        Check.due("from then on", -1, () -> y.take(1, 0, 60, 0));
    }

    static void onItForThatDebt() {
        Check.sentence("-2: it is on it for that DEBT");
        ListedGoods x = plain();
        Check.due("once for each", -2, () -> x.take(0, 0, 50, 1));
        Check.due("at another time, by another door", -2, () -> x.take(0, 0, 9999, 0));
        Check.due("a barred minute is not told by that", 1, () -> x.told(4));
        Check.due("joined for another debt", 1, () -> x.take(1, 0, 50, 0));
        Check.due("of another one", 2, () -> x.take(2, 0, 50, 0));
        Check.due("once for each of these", -2, () -> x.take(2, 0, 50, 0));
    }

    static void soldOrGivenBack() {
        Check.sentence("-2: or SOLD or GIVEN BACK (it may not be taken any more)");
        ListedGoods x = plain();
        x.sell(0, 4, 0);
        Check.due("a refused sale leaves it", 1, () -> x.take(1, 0, 50, 0));
        x.sell(0, 5, 0);
        Check.due("sold", -2, () -> x.take(2, 0, 50, 0));
        ListedGoods y = Check.with(PLAIN + "claim 0 0 70;", "");
        y.take(0, 0, 50, 0);
        y.sell(0, 9, 70);
        Check.due("given back", -2, () -> y.take(1, 0, 50, 0));
        Check.due("another good is not", 1, () -> y.take(1, 1, 50, 0));
    }

    static void setAside() {
        Check.sentence("-2: or the DEBT is SET ASIDE");
        ListedGoods x = plain();
        x.aside(1);
        Check.due("set aside", -2, () -> x.take(1, 2, 50, 0));
        Check.due("another is not", 1, () -> x.take(0, 2, 50, 0));
    }

    static void thereAre24() {
        Check.sentence("-3: there are 24");
        ListedGoods x = Check.with("person 0 0;" + "good0 5 0;".repeat(5) + "debt0 1 0;".repeat(6), "");
        for (int i = 0; i < 23; i++) {
            x.take(i % 6, i / 6, 0, 0);
        }
        Check.due("the 24th", 23, () -> x.take(5, 3, 0, 0));
        Check.due("the 25th", -3, () -> x.take(0, 4, 0, 0));
        Check.due("there are 24", 24, () -> x.told(4));
        Check.due("it is not on it", 0, () -> x.good(4, 3));
        Check.due("nor in a later minute", -3, () -> x.take(0, 4, 9999, 0));
        Check.due("which is not the latest then", -3, () -> x.take(0, 4, 0, 0));
    }

    static void ofTheseTheGreatest() {
        Check.sentence("Of these the greatest");
        ListedGoods x = full();
        Check.due("-2 ahead of -3", -2, () -> x.take(0, 0, 200, 0));
        Check.due("-1 ahead of -3", -1, () -> x.take(0, 6, 200, 0));
        x.aside(5);
        Check.due("-2 ahead of -3, set aside", -2, () -> x.take(5, 4, 200, 0));
        Check.due("-1 ahead of both", -1, () -> x.take(5, 6, 200, 0));
        Check.law(x, "bar hour <10;");
        Check.due("-1 ahead of -2", -1, () -> x.take(0, 0, 200, 0));
        Check.due("-3 alone", -3, () -> x.take(0, 4, 600, 0));
    }

    static void earlierThanTheLatest() {
        Check.sentence("IllegalStateException: a MINUTE less than that of the latest act");
        ListedGoods x = plain();
        Check.refusedAndAllStays("one earlier", Check.UNTIMELY, x, () -> x.take(0, 2, 49, 0));
        Check.refusedAndAllStays("the first minute", Check.UNTIMELY, x, () -> x.take(0, 2, 0, 0));
        Check.refusedAndAllStays("though it is barred", Check.UNTIMELY, x, () -> x.take(0, 1, 49, 0));
        Check.due("the same minute", 1, () -> x.take(0, 2, 50, 0));
        Check.due("a taking that fails does not count", -2, () -> x.take(0, 2, 70, 0));
        Check.due("nor one that is barred", -1, () -> x.take(0, 1, 70, 0));
        Check.due("50 is the latest still", 2, () -> x.take(1, 2, 50, 0));
        ListedGoods y = full();
        Check.refused("though there are 24", Check.UNTIMELY, () -> y.take(0, 4, 122, 0));
        Check.due("of the latest minute", -3, () -> y.take(0, 4, 123, 0));
        ListedGoods z = Check.with(PLAIN, "");
        Check.due("no act is ahead of the first", 0, () -> z.take(0, 0, 0, 0));
        Check.refused("a wrong minute is unfit", Check.UNFIT, () -> z.take(0, 1, -1, 0));
        z.image();
        z.take(0, 1, 900, 0);
        z.restore();
        Check.due("the latest is that of the image", 1, () -> z.take(0, 1, 1, 0));
    }

    /* ---- promise 16 ---- */

    static void acts() {
        Check.sentence("Of the i-th act: 0 DEBT, 1 GOOD, 2 MINUTE, 3 DOOR; NONE: none such");
        ListedGoods x = full();
        int[] last = {5, 3, 123, 0};
        for (int what = 0; what <= 3; what++) {
            int w = what;
            Check.due("the last", last[w], () -> x.act(23, w));
            for (int i : new int[] {Integer.MIN_VALUE, -1, 24, 25, Integer.MAX_VALUE}) {
                Check.due("act " + i, -1, () -> x.act(i, w));
            }
        }
        ListedGoods y = plain();
        int[] first = {0, 0, 50, 1};
        for (int what = 0; what <= 3; what++) {
            int w = what;
            Check.due("the first", first[w], () -> y.act(0, w));
            Check.due("there is no second", -1, () -> y.act(1, w));
        }
        Check.due("none such is no refusal", 0, () -> y.status(0) + y.status(1));
    }

    static void actsWhat() {
        Check.sentence("act: IllegalArgumentException: another what");
        for (int what : new int[] {Integer.MIN_VALUE, -1, 4, Integer.MAX_VALUE}) {
            ListedGoods x = plain();
            Check.refusedAndAllStays("act 0", Check.UNFIT, x, () -> x.act(0, what));
            Check.refusedAndAllStays("no such act", Check.UNFIT, x, () -> x.act(7, what));
        }
    }

    /* ---- promise 17 ---- */

    static void wrongActs() {
        Check.sentence("WRONG acts, as bits");
        ListedGoods none = new ListedGoods();
        Check.due("no list", 0, none::wrong);
        ListedGoods x = full();
        Check.due("none of 24", 0, x::wrong);
        Check.law(x, "bar worth >0;");
        Check.due("all of 24", 0xffffff, x::wrong);
        Check.law(x, "bar hour >1;");
        Check.due("from minute 120 on", 0xf00000, x::wrong);
        ListedGoods y = Check.with(PLAIN + "ill 0 9999;claim 1 9 10000;claim 2 9 9999;", "bar proved;");
        y.take(0, 0, 0, 0);
        y.take(2, 1, 0, 0);
        y.take(2, 2, 0, 0);
        Check.due("never is not proved", 4, y::wrong);
        Check.law(y, "bar ill;");
        Check.due("of that person", 1, y::wrong);
        Check.law(y, "bar owed >49;");
        Check.due("owed as it was", 1, y::wrong);
        y.aside(1);
        Check.due("not what is set aside", 0, y::wrong);
    }

    /* ---- promise 18 ---- */

    static void stages() {
        Check.sentence("A PERSON comes to a STAGE (0 to 3): by how much his FEES are more (0: he was in it)");
        ListedGoods x = Check.with(PLAIN + "fee 1 10;fee 2 20;fee 3 99;", "");
        Check.due("the last at once: who comes to one has been in all ahead", 133, () -> x.stage(0, 3));
        for (int stage = 3; stage >= 0; stage--) {
            int s = stage;
            Check.due("he was in " + s, 0, () -> x.stage(0, s));
            Check.due("he stays in the last", 3, () -> x.person(0, 1));
        }
        Check.due("once, however many debts", 133, () -> x.person(0, 2));
        int[] more = {4, 10, 20, 99};
        for (int stage = 0; stage <= 3; stage++) {
            int s = stage;
            Check.due("step by step " + s, more[s], () -> x.stage(1, s));
        }
        Check.due("together", 133, () -> x.person(1, 2));
        Check.due("from 0 to 2", 4, () -> x.stage(2, 0));
        Check.due("over one", 30, () -> x.stage(2, 2));
    }

    static void stagesBeyond() {
        Check.sentence("stage: IllegalArgumentException: STAGE (0 to 3)");
        for (int stage : new int[] {Integer.MIN_VALUE, -1, 4, Integer.MAX_VALUE}) {
            ListedGoods x = plain();
            Check.refusedAndAllStays("stage " + stage, Check.UNFIT, x, () -> x.stage(0, stage));
        }
    }

    /* ---- promise 19 ---- */

    static void halfRoundedUp() {
        Check.sentence("a price of half its V (rounded up) or more, less is refused");
        int[][] least = {{1, 1}, {2, 1}, {3, 2}, {8, 4}, {9, 5}, {998, 499}, {999, 500}};
        for (int[] l : least) {
            ListedGoods x = Check.with("person 0 0;good 0 " + l[0] + " 0;debt 0 1 0;", "");
            x.take(0, 0, 0, 0);
            String before = Check.all(x);
            Check.due("less than half of " + l[0], -1, () -> x.sell(0, l[1] - 1, 0));
            Check.due("nothing", -1, () -> x.sell(0, 0, 0));
            Check.same("all stays", before, Check.all(x));
            Check.due("half of " + l[0], l[1], () -> x.sell(0, l[1], 0));
        }
    }

    static void soldForMost() {
        Check.sentence("for a price (0 to 9,999)");
        for (int price : new int[] {Integer.MIN_VALUE, -1, 10000, Integer.MAX_VALUE}) {
            ListedGoods x = plain();
            Check.refusedAndAllStays("price " + price, Check.UNFIT, x, () -> x.sell(0, price, 0));
        }
        ListedGoods y = plain();
        Check.due("the most", 9999, () -> y.sell(0, 9999, 0));
    }

    static void soldInMinutes() {
        Check.sentence("SOLD in a MINUTE (0 to 9,999)");
        for (int minute : new int[] {Integer.MIN_VALUE, -1, 10000, Integer.MAX_VALUE}) {
            ListedGoods x = plain();
            Check.refusedAndAllStays("minute " + minute, Check.UNFIT, x, () -> x.sell(0, 9, minute));
            Check.refusedAndAllStays("not on the list, " + minute, Check.UNFIT, x, () -> x.sell(2, 9, minute));
        }
        ListedGoods y = Check.with(PLAIN, "");
        y.take(0, 0, 50, 0);
        y.take(0, 1, 50, 0);
        Check.due("the first minute, ahead of the taking", 9, () -> y.sell(0, 9, 0));
        Check.due("the last minute", 9, () -> y.sell(1, 9, 9999));
    }

    static void provedByThen() {
        Check.sentence("if it is proved by then, it is GIVEN BACK instead");
        String house = "person 0 0;good 0 9 0;debt 0 1 0;";
        String[] claims = {"claim 0 0 0;", "claim 0 5 70;", "claim 0 5 9999;"};
        int[] proved = {0, 70, 9999};
        for (int i = 0; i < 3; i++) {
            int q = proved[i];
            ListedGoods x = Check.with(house + claims[i], "");
            x.take(0, 0, 0, 0);
            Check.due("proved in " + q, -2, () -> x.sell(0, 9, q));
            Check.due("given back", 1, () -> x.good(0, 5));
            Check.due("no coin", 0, () -> x.person(0, 3));
            if (q > 0) {
                ListedGoods y = Check.with(house + claims[i], "");
                y.take(0, 0, 0, 0);
                Check.due("not yet", 9, () -> y.sell(0, 9, q - 1));
                Check.due("not given back", 0, () -> y.good(0, 5));
            }
        }
        ListedGoods z = Check.with(house + "claim 0 0 10000;", "");
        z.take(0, 0, 0, 0);
        Check.due("never", 9, () -> z.sell(0, 9, 9999));
    }

    static void notOnTheList() {
        Check.sentence("-3: it is not on the LIST, or SOLD or GIVEN BACK");
        ListedGoods x = Check.with(PLAIN + "claim 1 0 70;", "");
        Check.due("no list", -3, () -> x.sell(0, 9, 0));
        x.take(0, 0, 0, 0);
        x.take(0, 1, 0, 0);
        Check.due("not on it", -3, () -> x.sell(2, 9, 0));
        x.sell(0, 9, 0);
        Check.due("sold", -3, () -> x.sell(0, 8, 0));
        Check.due("the price stays", 9, () -> x.good(0, 4));
        x.sell(1, 9, 70);
        String before = Check.all(x);
        Check.due("given back", -3, () -> x.sell(1, 9, 70));
        Check.due("given back for good", -3, () -> x.sell(1, 9, 0));
        Check.same("all stays", before, Check.all(x));
    }

    static void threeAheadOfTwo() {
        Check.sentence("-3 ahead of -2, that ahead of -1");
        ListedGoods x = Check.with(PLAIN + "claim 0 0 70;claim 1 0 70;", "");
        Check.due("not on the list, though proved and too little", -3, () -> x.sell(0, 0, 70));
        Check.due("not given back by that", 0, () -> x.good(0, 5));
        Check.due("not on the list, though too little", -3, () -> x.sell(2, 0, 0));
        x.take(0, 0, 0, 0);
        x.take(0, 1, 0, 0);
        Check.due("proved, though too little", -2, () -> x.sell(0, 0, 70));
        x.sell(1, 8, 69);
        Check.due("sold, though proved since", -3, () -> x.sell(1, 0, 70));
        Check.due("it stays sold", 0, () -> x.good(1, 5));
        Check.due("none of these is a refusal by exception", 0, () -> x.status(0) + x.status(1) + x.status(2));
    }

    static void byTwelveCut() {
        Check.sentence("Of the price each who has a part gets it (by 12, cut), the OWNER the rest");
        String house = PEOPLE + "good 0 1 0;part 0 1 1;part 0 2 10;debt 0 9999 0;debt 1 9999 0;debt 2 9999 0;";
        int[][] shares = {{1, 1, 0, 0}, {11, 2, 0, 9}, {12, 1, 1, 10}, {13, 2, 1, 10}, {23, 3, 1, 19}, {24, 2, 2, 20},
            {9999, 834, 833, 8332}};
        for (int[] s : shares) {
            ListedGoods x = Check.with(house, "");
            for (int debt = 0; debt < 3; debt++) {
                x.take(debt, 0, 0, 0);
            }
            Check.due("the owner's of " + s[0], s[1], () -> x.sell(0, s[0], 0));
            for (int p = 0; p < 3; p++) {
                int pp = p;
                Check.due("coin of " + p + " of " + s[0], s[p + 1], () -> x.person(pp, 3));
            }
        }
        ListedGoods y = Check.with(PEOPLE + "good 1 999 0;part 0 0 11;debt 0 1 0;", "");
        y.take(0, 0, 0, 0);
        Check.due("the least rest of the most", 834, () -> y.sell(0, 9999, 0));
        Check.due("the most part of the most", 9165, () -> y.person(0, 3));
    }

    static void coinOfHisDebts() {
        Check.sentence("COIN: what he gets of GOODS that are on the LIST for a DEBT of his; of others he has it himself");
        ListedGoods x = Check.with(PEOPLE + "good 0 12 0;part 0 1 6;debt 0 99 0;debt 0 99 0;debt 1 99 0;debt 2 99 0;", "");
        x.take(2, 0, 0, 0);
        x.sell(0, 12, 0);
        Check.due("for a debt of his", 6, () -> x.person(1, 3));
        Check.due("the owner has it himself", 0, () -> x.person(0, 3));
        ListedGoods y = Check.with(PEOPLE + "good 0 12 0;part 0 1 6;debt 0 99 0;debt 0 99 0;debt 1 99 0;debt 2 99 0;", "");
        y.take(0, 0, 0, 0);
        y.take(1, 0, 0, 0);
        y.take(3, 0, 0, 0);
        Check.due("not yet sold", 0, () -> y.person(0, 3));
        y.sell(0, 12, 0);
        Check.due("once, though joined", 6, () -> y.person(0, 3));
        Check.due("not for a debt of his", 0, () -> y.person(1, 3));
        Check.due("no part of it", 0, () -> y.person(2, 3));
        y.aside(0);
        y.aside(1);
        Check.due("the list stays, so does coin", 6, () -> y.person(0, 3));
    }

    static void ofAFullHouse() {
        Check.sentence("4 at most, 12, 6 (all at once)");
        ListedGoods x = Check.with("person 0 0;".repeat(4) + "good3 12 0;".repeat(12) + "part0 0 1;part0 1 2;part0 2 8;"
                + "debt0 9 5;debt1 9 4;debt2 9 3;debt3 9 2;debt3 9 1;debt3 9 0;", "");
        for (int debt = 0; debt < 4; debt++) {
            x.take(debt, 0, 0, 0);
            x.take(debt, 11, 0, 0);
        }
        Check.due("the owner of three parts", 1, () -> x.sell(0, 12, 0));
        Check.due("the last good", 24, () -> x.sell(11, 24, 0));
        int[] coin = {1, 2, 8, 25};
        for (int p = 0; p < 4; p++) {
            int pp = p;
            Check.due("coin of " + p, coin[p], () -> x.person(pp, 3));
        }
        gets(x, 1, 2, 8, 7, 9, 9);
        Check.due("what covers it", 12, () -> x.cover(3, 0, 0, 0));
        Check.due("the first that is not sold", 2, () -> x.cover(3, 0, 0, 1));
        Check.due("when", 0, () -> x.when(5, 11, 0, 0));
        Check.law(x, "bar owed <27;");
        Check.due("when by its writs", 2, () -> x.when(5, 11, 0, 0));
    }

    static void coinOfSeveral() {
        Check.sentence("COIN: what he gets of GOODS (of all these together)");
        ListedGoods x = Check.with("person 0 0;" + "good0 9 0;".repeat(12) + "debt 0 9999 0;", "");
        for (int g = 0; g < 12; g++) {
            x.take(0, g, 0, 0);
            x.sell(g, 9999, 0);
        }
        Check.due("the most", 119988, () -> x.person(0, 3));
        Check.due("less a debt", 109989, () -> x.person(0, 4));
        Check.due("the debt", 9999, () -> x.debt(0, 3));
    }

    /* ---- RANKS ---- */

    private static void gets(ListedGoods x, int... want) {
        for (int d = 0; d < want.length; d++) {
            int dd = d;
            Check.due("debt " + d, want[d], () -> x.debt(dd, 3));
        }
    }

    private static ListedGoods paying(int price, String debts) {
        ListedGoods x = Check.with("person 0 0;good 0 1 0;" + debts, "");
        x.take(0, 0, 0, 0);
        x.sell(0, price, 0);
        return x;
    }

    static void feesFirst() {
        Check.sentence("COIN of a PERSON pays his FEES first");
        for (int coin : new int[] {1, 49, 50, 51, 52, 60, 61}) {
            ListedGoods x = paying(coin, "debt 0 10 0;fee 0 50;");
            x.stage(0, 0);
            int rest = Math.max(0, coin - 50);
            Check.due("coin", coin, () -> x.person(0, 3));
            gets(x, Math.min(10, rest));
            Check.due("left of " + coin, Math.max(0, rest - 10), () -> x.person(0, 4));
        }
        ListedGoods y = paying(51, "debt 0 10 0;fee 0 50;");
        gets(y, 10);
        Check.due("no stage, no fee", 41, () -> y.person(0, 4));
    }

    static void earliestFirst() {
        Check.sentence("by WRITS, the earliest first, each whole");
        gets(paying(9, "debt 0 5 9999;debt 0 10 0;debt 0 7 1;"), 0, 9, 0);
        gets(paying(10, "debt 0 5 9999;debt 0 10 0;debt 0 7 1;"), 0, 10, 0);
        gets(paying(11, "debt 0 5 9999;debt 0 10 0;debt 0 7 1;"), 0, 10, 1);
        gets(paying(17, "debt 0 5 9999;debt 0 10 0;debt 0 7 1;"), 0, 10, 7);
        gets(paying(18, "debt 0 5 9999;debt 0 10 0;debt 0 7 1;"), 1, 10, 7);
        gets(paying(22, "debt 0 5 9999;debt 0 10 0;debt 0 7 1;"), 5, 10, 7);
        gets(paying(9999, "debt 0 5 9999;debt 0 10 0;debt 0 7 1;"), 5, 10, 7);
        gets(paying(30, "debt 0 1 5;debt 0 2 4;debt 0 3 3;debt 0 4 2;debt 0 5 1;debt 0 6 0;"), 1, 2, 3, 4, 5, 6);
        ListedGoods x = paying(23, "debt 0 5 9999;debt 0 10 0;debt 0 7 1;");
        Check.due("what is left is his", 1, () -> x.person(0, 4));
    }

    static void byAmounts() {
        Check.sentence("those of one MINUTE by their amounts (cut), then one by one, by number, round and round");
        gets(paying(1, "debt 0 5 3;debt 0 5 3;debt 0 5 3;"), 1, 0, 0);
        gets(paying(2, "debt 0 5 3;debt 0 5 3;debt 0 5 3;"), 1, 1, 0);
        gets(paying(3, "debt 0 5 3;debt 0 5 3;debt 0 5 3;"), 1, 1, 1);
        gets(paying(14, "debt 0 5 3;debt 0 5 3;debt 0 5 3;"), 5, 5, 4);
        gets(paying(15, "debt 0 5 3;debt 0 5 3;debt 0 5 3;"), 5, 5, 5);
        gets(paying(1, "debt 0 1 3;debt 0 9999 3;"), 1, 0);
        gets(paying(9999, "debt 0 1 3;debt 0 9999 3;"), 1, 9998);
        gets(paying(5, "debt 0 1 3;debt 0 1 3;debt 0 1 3;debt 0 1 3;debt 0 1 3;debt 0 1 3;"), 1, 1, 1, 1, 1, 0);
        gets(paying(9999, "debt 0 9999 3;debt 0 9999 3;debt 0 9999 3;debt 0 9999 3;debt 0 9999 3;debt 0 9998 3;"),
                1667, 1667, 1667, 1666, 1666, 1666);
        gets(paying(10, "debt 0 4 3;debt 0 9 2;debt 0 4 3;"), 1, 9, 0);
    }

    static void noneAboveWhatIsOwed() {
        Check.sentence("none above what is owed; what is left is his");
        ListedGoods x = paying(9999, "debt 0 1 3;debt 0 2 3;debt 0 3 4;");
        gets(x, 1, 2, 3);
        Check.due("the rest", 9993, () -> x.person(0, 4));
        ListedGoods y = paying(6, "debt 0 1 3;debt 0 2 3;debt 0 3 4;");
        gets(y, 1, 2, 3);
        Check.due("just paid", 0, () -> y.person(0, 4));
        ListedGoods z = paying(28, "debt 0 1 3;debt 0 14 3;debt 0 14 3;");
        gets(z, 1, 14, 13);
    }

    /* ---- promise 20 ---- */

    static void asideAgain() {
        Check.sentence("A DEBT is SET ASIDE: what it got by RANKS (0, if it was already)");
        ListedGoods x = paying(14, "debt 0 10 0;debt 0 7 1;debt 0 9 2;");
        Check.due("it got a part", 4, () -> x.aside(1));
        gets(x, 10, 0, 4);
        Check.due("already", 0, () -> x.aside(1));
        Check.due("it stays so", 1, () -> x.debt(1, 4));
        Check.due("it got all", 10, () -> x.aside(0));
        gets(x, 0, 0, 9);
        Check.due("left", 5, () -> x.person(0, 4));
        Check.due("the last", 9, () -> x.aside(2));
        gets(x, 0, 0, 0);
        Check.due("all is his", 14, () -> x.person(0, 4));
        ListedGoods y = Check.with("person 0 0;debt 0 5 0;", "");
        Check.due("it got nothing", 0, () -> y.aside(0));
        Check.due("and is set aside", 1, () -> y.debt(0, 4));
    }
}
