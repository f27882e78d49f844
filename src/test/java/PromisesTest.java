/** Promises 21 to 25: PROMISES by MONTHS, which hold, SPARE, the BEST. */
public final class PromisesTest {
    public static void main(String[] args) {
        making();
        kept();
        broken();
        byNumber();
        spare();
        best();
        bestLastIsLess();
        bestBehindOthers();
        forget();
        refusals();
        Check.end("PromisesTest");
    }

    private static void making() {
        ListedGoods x = Check.with("person 500 300;debt 0 9 0;", "");
        for (int i = 0; i < 8; i++) {
            int n = i;
            Check.due("promise " + n, n, () -> x.promise(0, 1, n));
        }
        Check.due("there are 8", -1, () -> x.promise(0, 1, 0));
        Check.refused("refused ahead of that", Check.UNFIT, () -> x.promise(0, 0, 0));
        Check.due("8 told", 8, () -> x.told(5));
    }

    private static void keptIs(ListedGoods x, int promise, int broken, int done, int paid) {
        Check.due("broken " + promise, broken, () -> x.kept(promise, 0));
        Check.due("done " + promise, done, () -> x.kept(promise, 1));
        Check.due("paid " + promise, paid, () -> x.kept(promise, 2));
    }

    private static void kept() {
        ListedGoods x = Check.with("person 500 300;debt 0 100 0;debt 0 9999 0;debt 0 7 0;", "");
        x.promise(0, 50, 0);
        keptIs(x, 0, -1, 1, 100);
        x.promise(0, 99, 33);
        keptIs(x, 1, -1, 34, 100);
        x.promise(1, 10, 30);
        keptIs(x, 2, -1, -1, 60);
        x.promise(2, 40, 35);
        keptIs(x, 3, -1, 35, 7);
        x.promise(2, 6, 35);
        keptIs(x, 4, -1, -1, 6);
    }

    private static void broken() {
        ListedGoods x = Check.with("person 500 300;month 0 2 319;month 0 4 300;month 0 5 299;debt 0 120 0;debt 0 100 0;debt 0 101 0;", "");
        x.promise(0, 50, 0);
        keptIs(x, 0, 2, -1, 100);
        x.promise(1, 50, 1);
        keptIs(x, 1, 2, -1, 50);
        x.forget();
        x.promise(2, 20, 2);
        keptIs(x, 0, 2, -1, 0);
        x.promise(2, 19, 2);
        keptIs(x, 1, 4, -1, 38);
        x.promise(2, 1, 5);
        keptIs(x, 2, 5, -1, 0);
        x.promise(2, 200, 3);
        keptIs(x, 3, -1, 3, 101);
        x.promise(2, 200, 3);
        keptIs(x, 4, 3, -1, 0);
        ListedGoods y = Check.with("person 500 300;month 0 2 320;debt 0 120 0;", "");
        y.promise(0, 50, 0);
        keptIs(y, 0, -1, 2, 120);
    }

    private static void byNumber() {
        ListedGoods x = Check.with("person 100 0;person 100 0;debt 0 300 0;debt 0 300 0;debt 1 300 0;", "");
        x.promise(0, 60, 3);
        x.promise(1, 60, 0);
        x.promise(2, 90, 0);
        keptIs(x, 0, -1, 7, 300);
        keptIs(x, 1, 3, -1, 180);
        keptIs(x, 2, -1, 3, 300);
        x.promise(0, 40, 3);
        keptIs(x, 3, -1, 10, 300);
        x.aside(0);
        keptIs(x, 0, -1, 7, 300);
    }

    private static void spare() {
        ListedGoods x = Check.with("person 100 30;person 5 9;month 0 1 10;debt 0 65 0;debt 1 5 0;", "");
        Check.due("without promises", 70, () -> x.spare(0, 0));
        Check.due("below 0", -20, () -> x.spare(0, 1));
        Check.due("another's", -4, () -> x.spare(1, 35));
        x.promise(0, 20, 2);
        x.promise(0, 50, 0);
        Check.due("behind the second", 20, () -> x.spare(0, 0));
        Check.due("broken there", -20, () -> x.spare(0, 1));
        Check.due("nothing by it from then on", 50, () -> x.spare(0, 2));
        Check.due("the last is less", 65, () -> x.spare(0, 5));
        Check.due("paid", 70, () -> x.spare(0, 6));
        Check.due("another's stays", -4, () -> x.spare(1, 0));
    }

    private static void bestIs(ListedGoods x, int debt, int month, int coin, int done) {
        Check.due("best coin of " + debt + " from " + month, coin, () -> x.best(debt, month, 0));
        Check.due("best month of " + debt + " from " + month, done, () -> x.best(debt, month, 1));
    }

    private static void best() {
        ListedGoods x = Check.with("person 999 0;person 100 0;debt 0 998 0;debt 0 999 0;debt 0 1000 0;debt 0 9999 0;"
                + "debt 1 3600 0;debt 1 3601 0;", "");
        bestIs(x, 0, 0, 998, 0);
        bestIs(x, 1, 35, 999, 35);
        bestIs(x, 2, 0, 500, 1);
        bestIs(x, 2, 35, -1, -1);
        bestIs(x, 3, 0, 909, 10);
        bestIs(x, 4, 0, 100, 35);
        bestIs(x, 4, 1, -1, -1);
        bestIs(x, 5, 0, -1, -1);
    }

    private static void bestLastIsLess() {
        // Even thirds of 210 are too much for the last MONTH; 100, 100 and 10 are not.
        ListedGoods x = Check.with("person 100 0;month 0 2 10;debt 0 210 0;debt 0 205 0;debt 0 211 0;", "");
        bestIs(x, 0, 0, 100, 2);
        bestIs(x, 1, 0, 98, 2);
        bestIs(x, 2, 0, 10, 21);
        bestIs(x, 2, 3, 71, 5);
    }

    private static void bestBehindOthers() {
        ListedGoods x = Check.with("person 100 0;debt 0 180 0;debt 0 300 0;", "");
        x.promise(0, 60, 0);
        bestIs(x, 0, 0, 36, 4);
        bestIs(x, 0, 2, 36, 6);
        bestIs(x, 1, 3, 100, 5);
        for (int i = 1; i < 8; i++) {
            x.promise(0, 1, 0);
        }
        Check.due("there are 8", 8, () -> x.told(5));
        bestIs(x, 0, 3, 90, 4);
        x.forget();
        bestIs(x, 1, 3, 100, 5);
    }

    private static void forget() {
        ListedGoods x = Check.with("person 100 0;debt 0 180 0;", "");
        x.promise(0, 60, 0);
        x.promise(0, 10, 0);
        Check.due("two", 2, x::forget);
        Check.due("none", 0, x::forget);
        Check.due("none told", 0, () -> x.told(5));
        Check.refused("none kept", Check.ABSENT, () -> x.kept(0, 0));
        Check.due("from 0 on again", 0, () -> x.promise(0, 1, 1));
    }

    private static void refusals() {
        ListedGoods x = Check.with("person 100 0;debt 0 180 0;", "");
        x.promise(0, 60, 0);
        Check.refused("no debt", Check.ABSENT, () -> x.promise(1, 0, 36));
        Check.refused("debt -1", Check.ABSENT, () -> x.promise(-1, 1, 1));
        Check.refused("m 0", Check.UNFIT, () -> x.promise(0, 0, 0));
        Check.refused("m 1000", Check.UNFIT, () -> x.promise(0, 1000, 0));
        Check.refused("month -1", Check.UNFIT, () -> x.promise(0, 1, -1));
        Check.refused("month 36", Check.UNFIT, () -> x.promise(0, 1, 36));
        Check.refused("no promise", Check.ABSENT, () -> x.kept(1, 9));
        Check.refused("promise -1", Check.ABSENT, () -> x.kept(-1, 0));
        Check.refused("what 3", Check.UNFIT, () -> x.kept(0, 3));
        Check.refused("what -1", Check.UNFIT, () -> x.kept(0, -1));
        Check.refused("no person", Check.ABSENT, () -> x.spare(1, 36));
        Check.refused("spare in 36", Check.UNFIT, () -> x.spare(0, 36));
        Check.refused("spare in -1", Check.UNFIT, () -> x.spare(0, -1));
        Check.refused("best of none", Check.ABSENT, () -> x.best(1, 36, 2));
        Check.refused("best in 36", Check.UNFIT, () -> x.best(0, 36, 0));
        Check.refused("best in -1", Check.UNFIT, () -> x.best(0, -1, 0));
        Check.refused("best what 2", Check.UNFIT, () -> x.best(0, 0, 2));
        Check.refused("best what -1", Check.UNFIT, () -> x.best(0, 0, -1));
        Check.due("one promise", 1, () -> x.told(5));
        Check.due("counted", 6, () -> x.status(0));
        Check.due("counted", 12, () -> x.status(1));
    }
}
