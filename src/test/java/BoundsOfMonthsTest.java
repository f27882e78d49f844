/** The boundary cases of promises 21 to 25: PROMISES by MONTHS, SPARE, BEST. */
public final class BoundsOfMonthsTest {
    private static final String HOUSE = "person 100 0;person 50 60;debt 0 100 0;debt 0 9999 0;debt 1 5 0;";

    public static void main(String[] args) throws IllegalAccessException {
        Check.runAll(BoundsOfMonthsTest.class);
    }

    private static void keptIs(ListedGoods x, int promise, int broken, int done, int paid) {
        Check.due("broken " + promise, broken, () -> x.kept(promise, 0));
        Check.due("done " + promise, done, () -> x.kept(promise, 1));
        Check.due("paid " + promise, paid, () -> x.kept(promise, 2));
    }

    private static void bestIs(ListedGoods x, int debt, int month, int coin, int done) {
        Check.due("best coin of " + debt + " from " + month, coin, () -> x.best(debt, month, 0));
        Check.due("best month of " + debt + " from " + month, done, () -> x.best(debt, month, 1));
    }

    /* ---- promise 21 ---- */

    static void eightAtMost() {
        Check.sentence("A PROMISE: its number; -1: there are 8");
        ListedGoods x = Check.with(HOUSE, "");
        for (int i = 0; i < 8; i++) {
            int n = i;
            Check.due("promise " + n, n, () -> x.promise(n % 3, 1, 0));
        }
        String before = Check.all(x);
        Check.due("there are 8", -1, () -> x.promise(0, 1, 0));
        Check.due("for whomever", -1, () -> x.promise(2, 1, 0));
        Check.same("all stays", before, Check.all(x));
        Check.due("it is no refusal", 0, () -> x.status(1));
        Check.refused("none such, full or not", Check.ABSENT, () -> x.promise(3, 1, 0));
        Check.refused("unfit, full or not", Check.UNFIT, () -> x.promise(0, 0, 0));
        x.forget();
        Check.due("there is room again", 0, () -> x.promise(0, 1, 0));
    }

    static void coinAndMonth() {
        Check.sentence("IllegalArgumentException: M (1 to 999), T (0 to 35)");
        for (int m : new int[] {Integer.MIN_VALUE, -1, 0, 1000, Integer.MAX_VALUE}) {
            ListedGoods x = Check.with(HOUSE, "");
            Check.refusedAndAllStays("m " + m, Check.UNFIT, x, () -> x.promise(0, m, 0));
        }
        for (int month : new int[] {Integer.MIN_VALUE, -1, 36, Integer.MAX_VALUE}) {
            ListedGoods x = Check.with(HOUSE, "");
            Check.refusedAndAllStays("month " + month, Check.UNFIT, x, () -> x.promise(0, 1, month));
        }
        ListedGoods y = Check.with(HOUSE, "");
        Check.due("the least", 0, () -> y.promise(0, 1, 0));
        Check.due("the most", 1, () -> y.promise(0, 999, 35));
    }

    /* ---- promise 22 ---- */

    static void lastMayBeLess() {
        Check.sentence("till it is paid (its last one may be less)");
        ListedGoods x = Check.with("person 100 0;month 0 1 1;month 0 3 0;debt 0 100 0;debt 0 101 0;", "");
        x.promise(0, 100, 0);
        keptIs(x, 0, -1, 0, 100);
        x.forget();
        x.promise(0, 99, 0);
        keptIs(x, 0, -1, 1, 100);
        x.forget();
        x.promise(0, 98, 0);
        keptIs(x, 0, 1, -1, 98);
        x.forget();
        x.promise(1, 100, 0);
        keptIs(x, 0, -1, 1, 101);
        x.forget();
        x.promise(0, 100, 2);
        keptIs(x, 0, -1, 2, 100);
        ListedGoods y = Check.with("person 7 0;debt 0 7 0;", "");
        y.promise(0, 999, 0);
        keptIs(y, 0, -1, 0, 7);
    }

    static void spareIsEnough() {
        Check.sentence("if that is less than what is to be paid, the PROMISE is BROKEN there");
        ListedGoods x = Check.with(HOUSE, "");
        x.promise(1, 100, 0);
        keptIs(x, 0, -1, -1, 3600);
        x.forget();
        x.promise(1, 101, 0);
        keptIs(x, 0, 0, -1, 0);
        x.forget();
        x.promise(2, 1, 35);
        keptIs(x, 0, 35, -1, 0);
        ListedGoods y = Check.with("person 10 10;person 11 10;debt 0 5 0;debt 1 5 0;", "");
        y.promise(0, 1, 0);
        y.promise(1, 1, 0);
        keptIs(y, 0, 0, -1, 0);
        keptIs(y, 1, -1, 4, 5);
    }

    static void nothingFromThenOn() {
        Check.sentence("(nothing is paid by it from then on)");
        ListedGoods x = Check.with("person 100 0;month 0 2 9;debt 0 100 0;debt 0 999 0;", "");
        x.promise(0, 10, 0);
        keptIs(x, 0, 2, -1, 20);
        Check.due("nothing in the month in which it breaks", 9, () -> x.spare(0, 2));
        Check.due("nor behind it", 100, () -> x.spare(0, 3));
        x.promise(1, 100, 3);
        keptIs(x, 1, -1, 12, 999);
    }

    static void inTheLastMonth() {
        Check.sentence("DONE in the MONTH in which the last is paid (NONE: not to MONTH 35)");
        ListedGoods x = Check.with("person 100 0;debt 0 36 0;debt 0 37 0;debt 0 100 0;", "");
        x.promise(0, 1, 0);
        keptIs(x, 0, -1, 35, 36);
        x.forget();
        x.promise(1, 1, 0);
        keptIs(x, 0, -1, -1, 36);
        x.forget();
        x.promise(2, 100, 35);
        keptIs(x, 0, -1, 35, 100);
        x.promise(0, 18, 34);
        keptIs(x, 1, 35, -1, 18);
        x.forget();
        x.promise(2, 99, 35);
        keptIs(x, 0, -1, -1, 99);
    }

    static void askedByNumber() {
        Check.sentence("PROMISES of a PERSON are asked by number: SPARE is INCOME less NEEDS less what those ahead pay in it");
        ListedGoods x = Check.with(HOUSE, "");
        x.promise(1, 60, 5);
        x.promise(0, 40, 4);
        x.promise(0, 41, 4);
        x.promise(0, 1, 6);
        keptIs(x, 0, -1, -1, 1860);
        keptIs(x, 1, -1, 6, 100);
        keptIs(x, 2, 5, -1, 41);
        keptIs(x, 3, -1, -1, 30);
        x.promise(0, 20, 6);
        keptIs(x, 4, 6, -1, 0);
        x.promise(0, 19, 6);
        keptIs(x, 5, -1, 11, 100);
        x.promise(2, 1, 0);
        keptIs(x, 6, 0, -1, 0);
        keptIs(x, 5, -1, 11, 100);
    }

    static void eachForItself() {
        Check.sentence("(PROMISES pay a DEBT each for itself, whole.)");
        ListedGoods x = Check.with("person 999 0;debt 0 100 0;", "");
        for (int i = 0; i < 8; i++) {
            x.promise(0, 100, 35);
        }
        for (int i = 0; i < 8; i++) {
            keptIs(x, i, -1, 35, 100);
        }
        Check.due("all in one month", 199, () -> x.spare(0, 35));
    }

    static void keptWhat() {
        Check.sentence("kept: IllegalArgumentException: another what");
        for (int what : new int[] {Integer.MIN_VALUE, -1, 3, Integer.MAX_VALUE}) {
            ListedGoods x = Check.with(HOUSE, "");
            x.promise(0, 1, 0);
            Check.refusedAndAllStays("kept " + what, Check.UNFIT, x, () -> x.kept(0, what));
        }
    }

    /* ---- promise 23 ---- */

    static void spareBelowNothing() {
        Check.sentence("SPARE of a PERSON in a MONTH behind all PROMISES (may be below 0)");
        ListedGoods x = Check.with("person 0 999;person 999 0;month 1 35 5;debt 0 1 0;debt 1 999 0;debt 1 6 0;", "");
        Check.due("the least", -999, () -> x.spare(0, 0));
        Check.due("the most", 999, () -> x.spare(1, 0));
        x.promise(0, 1, 0);
        Check.due("a broken promise pays nothing", -999, () -> x.spare(0, 0));
        x.promise(1, 999, 0);
        Check.due("just all", 0, () -> x.spare(1, 0));
        Check.due("paid", 999, () -> x.spare(1, 1));
        x.promise(2, 1, 30);
        Check.due("the last month", 4, () -> x.spare(1, 35));
        Check.due("the month ahead", 998, () -> x.spare(1, 34));
        Check.due("and that ahead of the promise", 999, () -> x.spare(1, 29));
    }

    static void spareMonths() {
        Check.sentence("spare: IllegalArgumentException: MONTH");
        for (int month : new int[] {Integer.MIN_VALUE, -1, 36, Integer.MAX_VALUE}) {
            ListedGoods x = Check.with(HOUSE, "");
            Check.refusedAndAllStays("spare in " + month, Check.UNFIT, x, () -> x.spare(0, month));
        }
    }

    /* ---- promise 24 ---- */

    static void doneFirst() {
        Check.sentence("the M by which it would be DONE first, of these the least");
        ListedGoods x = Check.with("person 999 0;person 10 0;debt 0 1 0;debt 0 999 0;debt 0 1000 0;debt 0 9999 0;debt 1 360 0;"
                + "debt 1 361 0;", "");
        bestIs(x, 0, 0, 1, 0);
        bestIs(x, 0, 35, 1, 35);
        bestIs(x, 1, 0, 999, 0);
        bestIs(x, 2, 0, 500, 1);
        bestIs(x, 3, 0, 909, 10);
        bestIs(x, 3, 25, 909, 35);
        bestIs(x, 3, 26, -1, -1);
        bestIs(x, 4, 0, 10, 35);
        bestIs(x, 4, 1, -1, -1);
        bestIs(x, 5, 0, -1, -1);
    }

    static void noneIs() {
        Check.sentence("NONE: none is");
        ListedGoods x = Check.with("person 5 5;person 5 4;month 1 20 4;debt 0 1 0;debt 1 15 0;debt 1 16 0;", "");
        bestIs(x, 0, 0, -1, -1);
        bestIs(x, 0, 35, -1, -1);
        bestIs(x, 1, 21, 1, 35);
        bestIs(x, 2, 21, -1, -1);
        bestIs(x, 1, 20, -1, -1);
        bestIs(x, 1, 5, 1, 19);
        bestIs(x, 1, 6, -1, -1);
        bestIs(x, 2, 4, 1, 19);
    }

    static void aGapOfOne() {
        Check.sentence("BEST: its last one may be less");
        // MONTH 2 has 10 alone: it may be the last one, if no more than 10 is left for it.
        ListedGoods x = Check.with("person 100 0;month 0 2 10;debt 0 210 0;debt 0 211 0;debt 0 209 0;", "");
        bestIs(x, 0, 0, 100, 2);
        bestIs(x, 1, 0, 10, 21);
        bestIs(x, 2, 0, 100, 2);
        ListedGoods y = Check.with("person 100 0;month 0 2 10;debt 0 208 0;debt 0 200 0;debt 0 199 0;debt 0 10 0;debt 0 11 0;", "");
        bestIs(y, 0, 0, 99, 2);
        bestIs(y, 1, 0, 100, 1);
        bestIs(y, 2, 0, 100, 1);
        bestIs(y, 3, 2, 10, 2);
        bestIs(y, 4, 2, 6, 3);
    }

    static void behindAllThatStand() {
        Check.sentence("BEST for a DEBT from a MONTH on, behind all PROMISES that stand");
        ListedGoods x = Check.with(HOUSE, "");
        x.promise(0, 99, 0);
        bestIs(x, 0, 0, -1, -1);
        bestIs(x, 0, 1, 50, 2);
        x.promise(1, 100, 2);
        bestIs(x, 0, 2, -1, -1);
        bestIs(x, 0, 1, -1, -1);
        x.forget();
        bestIs(x, 0, 2, 100, 2);
        for (int i = 0; i < 8; i++) {
            x.promise(0, 10, 26);
        }
        bestIs(x, 0, 26, 20, 30);
        Check.due("a promise is not made by that", 8, () -> x.told(5));
        bestIs(x, 0, 35, -1, -1);
        bestIs(x, 0, 25, 100, 25);
    }

    static void bestWhat() {
        Check.sentence("best: IllegalArgumentException: MONTH, another what");
        for (int n : new int[] {Integer.MIN_VALUE, -1, 36, Integer.MAX_VALUE}) {
            ListedGoods x = Check.with(HOUSE, "");
            Check.refusedAndAllStays("best from " + n, Check.UNFIT, x, () -> x.best(0, n, 0));
        }
        for (int n : new int[] {Integer.MIN_VALUE, -1, 2, Integer.MAX_VALUE}) {
            ListedGoods x = Check.with(HOUSE, "");
            Check.refusedAndAllStays("best what " + n, Check.UNFIT, x, () -> x.best(0, 0, n));
        }
    }

    /* ---- promise 25 ---- */

    static void allGo() {
        Check.sentence("All PROMISES go: how many");
        ListedGoods x = Check.with(HOUSE, "");
        Check.due("none", 0, x::forget);
        x.promise(0, 1, 0);
        Check.due("one", 1, x::forget);
        for (int i = 0; i < 8; i++) {
            x.promise(i % 3, 1, 0);
        }
        Check.due("eight, of all persons", 8, x::forget);
        Check.due("none again", 0, x::forget);
        Check.due("none told", 0, () -> x.told(5));
        Check.due("nothing is paid by them", 100, () -> x.spare(0, 0));
        Check.refused("none kept", Check.ABSENT, () -> x.kept(0, 0));
    }
}
