/** The boundary cases of promises 26 to 28: COVER, WHEN, DRAWN sales. */
public final class BoundsOfSetsTest {
    private static final String PEOPLE = "person 0 0;person 0 0;person 0 0;";
    /* SEEDS by the DRAW that comes first of each: bits 16 to 18 of SEED * 1,103,515,245 + 12,345. */
    private static final int[] SEED = {0, 4, 8, 3, 2, 11, 1, 5};

    public static void main(String[] args) throws IllegalAccessException {
        Check.runAll(BoundsOfSetsTest.class);
    }

    private static void coverIs(ListedGoods x, int debt, int together, int bits) {
        Check.due("cover of " + debt, together, () -> x.cover(debt, 0, 0, 0));
        Check.due("bits of " + debt, bits, () -> x.cover(debt, 0, 0, 1));
    }

    /* ---- promise 26 ---- */

    static void noLessThanTheDebt() {
        Check.sentence("the set whose parts are together no less than the DEBT and his FEES, and least");
        ListedGoods x = Check.with(PEOPLE + "good 0 10 0;good 0 20 0;good 0 40 0;"
                + "debt 0 10 0;debt 0 11 0;debt 0 29 0;debt 0 31 0;debt 0 70 0;debt 0 71 0;fee 0 1;fee 1 0;fee 2 29;", "");
        coverIs(x, 0, 10, 1);
        coverIs(x, 1, 20, 2);
        coverIs(x, 2, 30, 3);
        coverIs(x, 3, 40, 4);
        coverIs(x, 4, 70, 7);
        coverIs(x, 5, -1, -1);
        x.stage(0, 0);
        coverIs(x, 0, 20, 2);
        coverIs(x, 1, 20, 2);
        coverIs(x, 2, 30, 3);
        coverIs(x, 3, 40, 4);
        coverIs(x, 4, -1, -1);
        x.stage(0, 2);
        coverIs(x, 0, 40, 4);
        coverIs(x, 1, 50, 5);
        x.stage(1, 3);
        coverIs(x, 0, 40, 4);
    }

    static void noSetDoes() {
        Check.sentence("NONE: no set does");
        ListedGoods x = Check.with(PEOPLE + "debt 0 1 0;", "");
        coverIs(x, 0, -1, -1);
        ListedGoods y = Check.with(PEOPLE + "good 0 999 0;".repeat(12) + "debt 0 9999 0;", "");
        coverIs(y, 0, 10989, 0x7ff);
        ListedGoods z = Check.with(PEOPLE + "good 0 1 0;".repeat(12) + "debt 0 12 0;debt 0 13 0;debt 0 1 0;", "");
        coverIs(z, 0, 12, 0xfff);
        coverIs(z, 1, -1, -1);
        coverIs(z, 2, 1, 1);
        ListedGoods v = Check.with(PEOPLE + "good 1 999 0;debt 0 1 0;", "");
        coverIs(v, 0, -1, -1);
    }

    static void fewestThenLeastBits() {
        Check.sentence("and least; of these the fewest, then the least bits");
        ListedGoods x = Check.with(PEOPLE + "good 0 10 0;good 0 20 0;good 0 30 0;good 0 30 0;good 0 15 0;"
                + "debt 0 30 0;debt 0 46 0;debt 0 25 0;debt 0 45 0;debt 0 60 0;", "");
        coverIs(x, 0, 30, 4);
        coverIs(x, 1, 50, 6);
        coverIs(x, 2, 25, 17);
        coverIs(x, 3, 45, 20);
        coverIs(x, 4, 60, 12);
        ListedGoods y = Check.with(PEOPLE + "good 1 50 0;good 0 5 0;good 1 50 0;good 0 5 0;debt 0 5 0;debt 0 10 0;", "");
        coverIs(y, 0, 5, 2);
        coverIs(y, 1, 10, 10);
    }

    static void lawfulThen() {
        Check.sentence("of GOODS that a taking for a DEBT in a MINUTE by a DOOR would be lawful of");
        ListedGoods x = Check.with(PEOPLE + "good 0 9 1;good 0 9 0;claim 1 70 10000;debt 0 9 0;", "bar kind 1 and forced;bar claimed;");
        Check.due("both", 1, () -> x.cover(0, 0, 0, 1));
        Check.due("by a forced door", 2, () -> x.cover(0, 69, 2, 1));
        Check.due("neither", -1, () -> x.cover(0, 70, 2, 1));
        Check.due("the last minute", 1, () -> x.cover(0, 9999, 1, 1));
    }

    static void notSoldNorGivenBack() {
        Check.sentence("not SOLD nor GIVEN BACK");
        ListedGoods x = Check.with(PEOPLE + "good 0 9 0;good 0 9 0;good 0 9 0;claim 1 0 0;debt 0 9 0;debt 0 27 0;", "");
        x.take(0, 0, 0, 0);
        x.take(0, 1, 0, 0);
        coverIs(x, 1, 27, 7);
        x.sell(0, 4, 0);
        coverIs(x, 0, 9, 1);
        x.sell(0, 5, 0);
        coverIs(x, 0, 9, 2);
        x.sell(1, 9, 0);
        coverIs(x, 0, 9, 4);
        coverIs(x, 1, -1, -1);
    }

    static void partsAsOfAPrice() {
        Check.sentence("parts of that PERSON (of V, as of a price)");
        ListedGoods x = Check.with(PEOPLE + "good 0 23 0;good 0 11 0;part 0 1 5;part 0 2 1;part 1 1 1;"
                + "debt 0 13 0;debt 0 14 0;debt 0 25 0;debt 1 9 0;debt 1 10 0;debt 2 1 0;", "");
        coverIs(x, 0, 13, 1);
        coverIs(x, 1, 24, 3);
        coverIs(x, 2, -1, -1);
        coverIs(x, 3, 9, 1);
        coverIs(x, 4, -1, -1);
        coverIs(x, 5, 1, 1);
    }

    static void coverWhat() {
        Check.sentence("cover: IllegalArgumentException: another what");
        for (int what : new int[] {Integer.MIN_VALUE, -1, 2, Integer.MAX_VALUE}) {
            ListedGoods x = Check.with(PEOPLE + "good 0 9 0;debt 0 9 0;", "");
            Check.refusedAndAllStays("cover what " + what, Check.UNFIT, x, () -> x.cover(0, 0, 0, what));
        }
    }

    /* ---- promise 27 ---- */

    static void firstFromOneOn() {
        Check.sentence("WHEN: the first MINUTE from one on in which a taking is lawful");
        ListedGoods x = Check.with(PEOPLE + "good 0 9 0;debt 0 5 70;debt 0 5 130;ill 0 200;claim 0 330 410;", "");
        Check.due("at once", 0, () -> x.when(0, 0, 0, 0));
        Check.due("in the last", 9999, () -> x.when(0, 0, 9999, 0));
        Check.law(x, "bar owed <5;");
        Check.due("a writ", 70, () -> x.when(0, 0, 0, 0));
        Check.due("one ahead", 70, () -> x.when(0, 0, 69, 0));
        Check.due("that one", 70, () -> x.when(0, 0, 70, 0));
        Check.due("one behind", 71, () -> x.when(0, 0, 71, 0));
        Check.law(x, "bar owed <10;");
        Check.due("a second writ", 130, () -> x.when(0, 0, 0, 0));
        Check.law(x, "bar not ill;");
        Check.due("ill", 200, () -> x.when(0, 0, 0, 0));
        Check.law(x, "bar not claimed;");
        Check.due("claimed", 330, () -> x.when(0, 0, 0, 0));
        Check.law(x, "bar not proved;");
        Check.due("proved", 410, () -> x.when(0, 0, 0, 0));
        Check.law(x, "bar hour <7;");
        Check.due("an hour", 420, () -> x.when(0, 0, 0, 0));
        Check.due("the last of a day", 1439, () -> x.when(0, 0, 1439, 0));
        Check.due("the next day", 1860, () -> x.when(0, 0, 1440, 0));
        Check.law(x, "bar hour >6;");
        Check.due("goes round at 24", 1440, () -> x.when(0, 0, 420, 0));
    }

    static void notToTheLast() {
        Check.sentence("NONE: not to 9,999");
        ListedGoods x = Check.with(PEOPLE + "good 0 9 0;debt 0 5 9999;", "bar owed <5;");
        Check.due("in the last minute alone", 9999, () -> x.when(0, 0, 0, 0));
        Check.due("from it on", 9999, () -> x.when(0, 0, 9999, 0));
        x.aside(0);
        Check.due("never", -1, () -> x.when(0, 0, 0, 0));
        Check.law(x, "bar hour <23;");
        Check.due("the last night", 8580, () -> x.when(0, 0, 7200, 0));
        Check.due("its last minute", 8639, () -> x.when(0, 0, 8639, 0));
        Check.due("there is no 23 any more", -1, () -> x.when(0, 0, 8640, 0));
        Check.law(x, "bar forced;");
        Check.due("by a forced door never", -1, () -> x.when(0, 0, 0, 2));
        Check.due("by an open one at once", 7, () -> x.when(0, 0, 7, 1));
        Check.law(x, "bar ill;");
        ListedGoods y = Check.with(PEOPLE + "good 0 9 0;debt 0 5 0;ill 0 300;", "bar ill;");
        Check.due("ahead of it", 299, () -> y.when(0, 0, 299, 0));
        Check.due("from then on never", -1, () -> y.when(0, 0, 300, 0));
    }

    /* ---- promise 28 ---- */

    private static ListedGoods listed(String goods, int howMany) {
        ListedGoods x = Check.with(PEOPLE + goods + "debt 0 9999 0;debt 1 9999 0;", "");
        for (int g = 0; g < howMany; g++) {
            x.take(0, g, 0, 0);
        }
        return x;
    }

    private static void drawnIs(ListedGoods x, int seed, int prices, int refused, int back, int coin) {
        Check.due("prices by " + seed, prices, () -> x.drawn(0, seed, 0));
        Check.due("refused by " + seed, refused, () -> x.drawn(0, seed, 1));
        Check.due("given back by " + seed, back, () -> x.drawn(0, seed, 2));
        Check.due("coin by " + seed, coin, () -> x.drawn(0, seed, 3));
    }

    static void drawOfEight() {
        Check.sentence("a DRAW of 8: V times 2 and the DRAW, by 8, cut: the price (half its V or more, less is refused)");
        ListedGoods even = listed("good 0 800 0;", 1);
        ListedGoods odd = listed("good 0 801 0;", 1);
        ListedGoods one = listed("good 0 1 0;", 1);
        ListedGoods most = listed("good 0 999 0;", 1);
        int[] ofEven = {0, 0, 400, 500, 600, 700, 800, 900};
        int[] ofOdd = {0, 0, 0, 500, 600, 700, 801, 901};
        int[] ofOne = {0, 0, 0, 0, 0, 0, 1, 1};
        int[] ofMost = {0, 0, 0, 624, 749, 874, 999, 1123};
        for (int draw = 0; draw < 8; draw++) {
            int seed = SEED[draw];
            drawnIs(even, seed, ofEven[draw], ofEven[draw] == 0 ? 1 : 0, 0, ofEven[draw]);
            drawnIs(odd, seed, ofOdd[draw], ofOdd[draw] == 0 ? 1 : 0, 0, ofOdd[draw]);
            drawnIs(one, seed, ofOne[draw], ofOne[draw] == 0 ? 1 : 0, 0, ofOne[draw]);
            drawnIs(most, seed, ofMost[draw], ofMost[draw] == 0 ? 1 : 0, 0, ofMost[draw]);
        }
    }

    static void seedWraps() {
        Check.sentence("the SEED (32 bits) becomes itself times 1,103,515,245, and 12,345 (it wraps); its bits 16 to 18");
        // The DRAWS by SEED -1 are 1, 1, 6, 6, 1, 2; by 0: 0, 4, 4, 5, 2, 7; by -559038737: 1, 1, 6, 1, 3, 5.
        ListedGoods x = listed("good 0 8 0;good 0 80 0;good 0 800 0;good 0 16 0;good 0 160 0;good 0 400 0;", 6);
        drawnIs(x, -1, 800 + 16 + 200, 3, 0, 1016);
        drawnIs(x, Integer.MAX_VALUE, 800 + 16 + 200, 3, 0, 1016);
        drawnIs(x, 0, 60 + 600 + 14 + 80 + 450, 1, 0, 1204);
        drawnIs(x, Integer.MIN_VALUE, 60 + 600 + 14 + 80 + 450, 1, 0, 1204);
        drawnIs(x, -559038737, 800 + 100 + 350, 3, 0, 1250);
    }

    static void provedThen() {
        Check.sentence("in the MINUTE of the last act; if not proved then");
        ListedGoods x = Check.with(PEOPLE + "good 0 80 0;good 0 800 0;good 0 8 0;claim 0 0 60;debt 0 9999 0;debt 1 9999 0;", "");
        x.take(0, 0, 0, 0);
        x.take(0, 1, 59, 0);
        // The DRAWS by SEED 1 are 6, 6, 1; by 5: 7, 1. What is given back takes none.
        drawnIs(x, 1, 880, 0, 0, 880);
        drawnIs(x, 5, 90, 1, 0, 90);
        x.take(1, 1, 60, 0);
        drawnIs(x, 1, 800, 0, 1, 800);
        drawnIs(x, SEED[7], 900, 0, 1, 900);
        x.take(0, 2, 9999, 0);
        drawnIs(x, 1, 808, 0, 1, 808);
        ListedGoods y = Check.with(PEOPLE + "good 0 80 0;claim 0 0 10000;debt 0 9999 0;", "");
        y.take(0, 0, 9999, 0);
        drawnIs(y, 1, 80, 0, 0, 80);
    }

    static void allOnTheList() {
        Check.sentence("DRAWN sale of all on the LIST that are not SOLD or GIVEN BACK, by GOODS");
        ListedGoods none = Check.with(PEOPLE + "good 0 80 0;debt 0 5 0;", "");
        drawnIs(none, 5, 0, 0, 0, 0);
        ListedGoods x = Check.with(PEOPLE + "good 0 80 0;good 0 800 0;good 0 8 0;good 0 16 0;claim 0 0 9;debt 0 9999 0;debt 0 1 0;", "");
        x.take(0, 3, 0, 0);
        x.take(0, 2, 0, 0);
        x.take(1, 2, 0, 0);
        // By GOODS, not by acts, and JOINED ones once: good 2 has the first DRAW of SEED 0 (0), good 3 the next (4).
        drawnIs(x, 0, 12, 1, 0, 12);
        x.take(0, 0, 0, 0);
        x.take(0, 1, 0, 0);
        x.sell(0, 80, 9);
        x.sell(1, 800, 0);
        drawnIs(x, 0, 12, 1, 0, 12);
        ListedGoods full = listed("good 0 8 0;".repeat(12), 12);
        Check.due("12 goods", 12, () -> full.told(4));
        Check.due("none is given back", 0, () -> full.drawn(0, 0, 2));
    }

    static void coinByIt() {
        Check.sentence("3 COIN of a PERSON by it");
        ListedGoods x = Check.with(PEOPLE + "good 0 100 0;good 0 800 0;good 1 12 0;part 1 1 5;part 1 2 1;part 2 0 1;"
                + "debt 0 9999 0;debt 1 9999 0;debt 2 9999 0;", "");
        x.take(0, 0, 0, 0);
        x.sell(0, 100, 0);
        x.take(0, 1, 0, 0);
        x.take(1, 1, 0, 0);
        // SEED 5 has DRAWS of 7 first: 900 for good 1, of which 1 and 2 have 375 and 75.
        Check.due("all", 900, () -> x.drawn(2, 5, 0));
        Check.due("the owner's rest, not what was sold ahead", 450, () -> x.drawn(0, 5, 3));
        Check.due("a part", 375, () -> x.drawn(1, 5, 3));
        Check.due("not for a debt of his", 0, () -> x.drawn(2, 5, 3));
    }

    static void nothingStaysChanged() {
        Check.sentence("(Nothing stays changed.)");
        ListedGoods x = Check.with(PEOPLE + "good 0 80 0;good 0 800 0;claim 0 0 0;debt 0 9999 0;", "");
        x.take(0, 0, 0, 0);
        x.take(0, 1, 0, 0);
        String before = Check.all(x);
        for (int i = 0; i < 3; i++) {
            drawnIs(x, 1, 800, 0, 1, 800);
        }
        Check.same("all", before, Check.all(x));
    }

    static void drawnWhat() {
        Check.sentence("drawn: IllegalArgumentException: another what");
        for (int what : new int[] {Integer.MIN_VALUE, -1, 4, Integer.MAX_VALUE}) {
            ListedGoods x = listed("good 0 8 0;", 1);
            Check.refusedAndAllStays("drawn what " + what, Check.UNFIT, x, () -> x.drawn(0, 0, what));
        }
    }
}
