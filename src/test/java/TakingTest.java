/** Promises 12 to 17 and 27: what bars a taking, the LIST, WRONG acts, WHEN. */
public final class TakingTest {
    private static final String HOUSE =
            "person 0 0;person 0 0;person 0 0;"
            + "good 0 100 2;good 1 60 0;good 0 1 5;"
            + "part 1 0 1;part 2 2 3;"
            + "claim 0 100 200;claim 1 50 10000;"
            + "debt 0 10 60;debt 0 20 120;debt 1 5 0;debt 2 7 500;"
            + "ill 0 600;";

    public static void main(String[] args) {
        atoms();
        joins();
        hindsight();
        firstRule();
        taking();
        listIsFull();
        acts();
        wrong();
        when();
        refusals();
        Check.end("TakingTest");
    }

    private static void so(boolean want, String test, int debt, int good, int minute, int door) {
        ListedGoods x = Check.with(HOUSE, "bar " + test + ";");
        String what = test + " " + debt + " " + good + " " + minute + " " + door;
        Check.due("isSo " + what, want ? 1 : 0, () -> x.isSo(0, debt, good, minute, door) ? 1 : 0);
        Check.due("bars " + what, want ? 0 : -1, () -> x.bars(debt, good, minute, door));
    }

    private static void atoms() {
        so(true, "kind 2", 0, 0, 0, 0);
        so(false, "kind 1", 0, 0, 0, 0);
        so(false, "worth <100", 0, 0, 0, 0);
        so(true, "worth <101", 0, 0, 0, 0);
        so(false, "worth >100", 0, 0, 0, 0);
        so(true, "worth >99", 0, 0, 0, 0);
        so(true, "owed <1", 0, 0, 59, 0);
        so(false, "owed <1", 0, 0, 60, 0);
        so(false, "owed >10", 0, 0, 119, 0);
        so(true, "owed >29", 0, 0, 120, 0);
        so(false, "owed >30", 1, 0, 9999, 0);
        so(true, "owed >4", 2, 0, 0, 0);
        so(false, "hour >0", 0, 0, 59, 0);
        so(true, "hour >0", 0, 0, 60, 0);
        so(true, "hour >22", 0, 0, 1439, 0);
        so(true, "hour <1", 0, 0, 1440, 0);
        so(true, "hour >21", 0, 0, 9999, 0);
        so(false, "hour >22", 0, 0, 9999, 0);
        so(false, "ill", 0, 0, 599, 0);
        so(true, "ill", 0, 0, 600, 0);
        so(false, "ill", 2, 0, 9999, 0);
        so(false, "claimed", 0, 0, 99, 0);
        so(true, "claimed", 0, 0, 100, 0);
        so(false, "claimed", 0, 2, 9999, 0);
        so(false, "proved", 0, 0, 199, 0);
        so(true, "proved", 0, 0, 200, 0);
        so(false, "proved", 0, 1, 9999, 0);
        so(false, "forced", 0, 0, 0, 0);
        so(false, "forced", 0, 0, 0, 1);
        so(true, "forced", 0, 0, 0, 2);
        so(false, "parted", 0, 0, 0, 0);
        so(true, "parted", 0, 1, 0, 0);
        so(true, "parted", 2, 1, 0, 0);
        so(true, "parted", 2, 0, 0, 0);
        so(true, "parted", 0, 2, 0, 0);
        so(false, "other", 0, 0, 0, 0);
        so(false, "other", 0, 1, 0, 0);
        so(false, "other", 2, 1, 0, 0);
        so(true, "other", 2, 0, 0, 0);
        so(true, "other", 3, 1, 0, 0);
        so(false, "other", 3, 2, 0, 0);
        ListedGoods x = Check.with(HOUSE, "bar owed >20;");
        x.aside(0);
        Check.due("owed without what is set aside", -1, () -> x.bars(0, 0, 999, 0));
    }

    /* Here kind 2 is so; other, forced and ill are not. */
    private static void joins() {
        so(true, "kind 2 or other and forced", 0, 0, 0, 0);
        so(false, "[kind 2 or other]and forced", 0, 0, 0, 0);
        so(true, "forced and other or kind 2", 0, 0, 0, 0);
        so(false, "not kind 2 and forced", 0, 0, 0, 0);
        so(true, "not [kind 2 and forced]", 0, 0, 0, 0);
        so(true, "not forced and kind 2", 0, 0, 0, 0);
        so(true, "not not kind 2", 0, 0, 0, 0);
        so(false, "not not not kind 2", 0, 0, 0, 0);
        so(true, "not [not [kind 2]] and not not [not forced]", 0, 0, 0, 0);
        so(true, "forced or forced or kind 2", 0, 0, 0, 0);
        so(false, "kind 2 and kind 2 and forced", 0, 0, 0, 0);
        so(true, "[forced or kind 2]and[kind 2 or forced]", 0, 0, 0, 0);
        so(true, "ill or[ill or[ill or[ill or[kind 2]]]]", 0, 0, 0, 0);
        so(false, "kind 2 and[kind 2 and[kind 2 and[kind 2 and[ill]]]]", 0, 0, 0, 0);
        so(true, "not " + "not ".repeat(71) + "kind 2", 0, 0, 0, 0);
        so(true, "[".repeat(144) + "kind2" + "]".repeat(144), 0, 0, 0, 0);
    }

    private static void hindsight() {
        ListedGoods x = Check.with(HOUSE, "bar ill;bar proved;bar claimed;");
        Check.due("nothing known yet", -1, () -> x.bars(0, 0, 0, 0));
        Check.due("ill came out", 0, () -> x.late(0, 0, 0, 0));
        Check.due("proved came out", 1, () -> x.late(2, 0, 0, 0));
        Check.due("never is not proved, but claimed", 2, () -> x.late(2, 1, 0, 0));
        Check.due("nothing came out", -1, () -> x.late(2, 2, 0, 0));
        ListedGoods y = Check.with(HOUSE, "bar hour >0;bar owed >0;");
        Check.due("the rest as it was", -1, () -> y.late(0, 0, 59, 0));
        Check.due("the hour", 0, () -> y.late(0, 0, 60, 0));
        ListedGoods z = Check.with(HOUSE, "bar not claimed;");
        Check.due("not known then", 0, () -> z.bars(0, 0, 0, 0));
        Check.due("known in the end", -1, () -> z.late(0, 0, 0, 0));
    }

    private static void firstRule() {
        ListedGoods x = Check.with(HOUSE, "bar forced;bar kind 2;bar worth >5;");
        Check.due("the first that is so", 1, () -> x.bars(0, 0, 0, 0));
        Check.due("an earlier one", 0, () -> x.bars(0, 0, 0, 2));
        Check.due("a later one", 2, () -> x.bars(0, 1, 0, 0));
        Check.due("none", -1, () -> x.bars(0, 2, 0, 0));
        Check.due("one rule alone", 1, () -> x.isSo(2, 0, 0, 0, 0) ? 1 : 0);
        Check.due("not so", 0, () -> x.isSo(0, 0, 0, 0, 0) ? 1 : 0);
        ListedGoods y = Check.with(HOUSE, "");
        Check.due("no rules", -1, () -> y.bars(0, 0, 0, 0));
    }

    private static void taking() {
        ListedGoods x = Check.with(HOUSE, "bar hour <1 or hour >20;bar proved;");
        Check.due("barred", -1, () -> x.take(0, 0, 0, 0));
        Check.due("not on the list", 0, () -> x.told(4));
        Check.due("taken", 0, () -> x.take(0, 0, 60, 0));
        Check.due("joined", 1, () -> x.take(1, 0, 60, 1));
        Check.due("twice for one debt", -2, () -> x.take(0, 0, 60, 0));
        Check.due("barred ahead of that", -1, () -> x.take(0, 0, 1440, 0));
        Check.refused("earlier", Check.UNTIMELY, () -> x.take(0, 2, 59, 0));
        Check.due("another", 2, () -> x.take(0, 2, 70, 0));
        x.sell(2, 1, 0);
        Check.due("sold", -2, () -> x.take(1, 2, 70, 0));
        Check.due("given back by a sale", -2, () -> x.sell(0, 100, 200));
        Check.due("given back", -2, () -> x.take(2, 0, 100, 0));
        x.aside(3);
        Check.due("set aside", -2, () -> x.take(3, 1, 100, 0));
        Check.due("a lawful one", 3, () -> x.take(2, 1, 100, 0));
    }

    private static void listIsFull() {
        StringBuilder house = new StringBuilder("person 0 0;");
        house.append("good0 5 0;".repeat(6)).append("good0 5 1;").append("debt0 1 0;".repeat(6));
        ListedGoods x = Check.with(house.toString(), "bar kind 1;");
        for (int i = 0; i < 24; i++) {
            int n = i;
            Check.due("act " + n, n, () -> x.take(n % 6, n / 6, n, 0));
        }
        Check.due("there are 24", -3, () -> x.take(0, 4, 30, 0));
        Check.due("on it ahead of that", -2, () -> x.take(0, 0, 30, 0));
        Check.due("barred ahead of both", -1, () -> x.take(0, 6, 30, 0));
        Check.refused("earlier ahead of all", Check.UNTIMELY, () -> x.take(0, 6, 22, 0));
        Check.due("24 acts", 24, () -> x.told(4));
        Check.due("the last", 3, () -> x.act(23, 1));
    }

    private static void acts() {
        ListedGoods x = Check.with(HOUSE, "");
        x.take(1, 2, 77, 1);
        int[] want = {1, 2, 77, 1};
        for (int what = 0; what < 4; what++) {
            int w = what;
            Check.due("act 0 " + w, want[w], () -> x.act(0, w));
            Check.due("act 1 " + w, -1, () -> x.act(1, w));
            Check.due("act -1 " + w, -1, () -> x.act(-1, w));
            Check.due("act max " + w, -1, () -> x.act(Integer.MAX_VALUE, w));
        }
        Check.refused("what 4", Check.UNFIT, () -> x.act(0, 4));
        Check.refused("what -1, none such", Check.UNFIT, () -> x.act(9, -1));
    }

    private static void wrong() {
        ListedGoods x = Check.with(HOUSE, "bar ill;bar proved;");
        x.take(2, 2, 0, 0);
        x.take(2, 0, 0, 0);
        x.take(0, 1, 0, 0);
        x.take(2, 1, 0, 0);
        Check.due("two came out", 6, x::wrong);
        Check.law(x, "bar forced;");
        Check.due("by the law that stands", 0, x::wrong);
        Check.law(x, "bar worth <100;");
        Check.due("by a new law", 13, x::wrong);
        ListedGoods y = Check.with("person 0 0;" + "good0 5 0;".repeat(4) + "debt0 1 0;".repeat(6) + "ill 0 9999;",
                "bar ill;");
        for (int i = 0; i < 24; i++) {
            y.take(i % 6, i / 6, 0, 0);
        }
        Check.due("all 24", 0xffffff, y::wrong);
    }

    private static void when() {
        ListedGoods x = Check.with(HOUSE, "bar hour <7;bar owed <30;");
        Check.due("the hour is later", 420, () -> x.when(0, 0, 0, 0));
        Check.due("at once", 433, () -> x.when(0, 0, 433, 0));
        Check.due("the next day", 1860, () -> x.when(0, 0, 1440, 0));
        Check.due("never owed so much", -1, () -> x.when(2, 0, 0, 0));
        ListedGoods y = Check.with(HOUSE, "bar owed <30;bar claimed;");
        Check.due("the claim is earlier than the writ", -1, () -> y.when(0, 0, 0, 0));
        Check.due("no claim", 120, () -> y.when(0, 2, 0, 0));
        ListedGoods z = Check.with(HOUSE, "bar not ill or hour >20;");
        Check.due("when he is ill", 600, () -> z.when(1, 0, 0, 0));
        Check.due("not behind the last minute", -1, () -> z.when(1, 0, 9900, 0));
        ListedGoods v = Check.with("person 0 0;good 0 5 0;claim 0 61 83;debt 0 4 90;ill 0 97;", "bar not claimed;");
        Check.due("claimed", 61, () -> v.when(0, 0, 0, 0));
        Check.law(v, "bar not proved;");
        Check.due("proved", 83, () -> v.when(0, 0, 60, 0));
        Check.law(v, "bar owed <4;");
        Check.due("a writ", 90, () -> v.when(0, 0, 89, 0));
        Check.law(v, "bar not ill;");
        Check.due("ill", 97, () -> v.when(0, 0, 61, 0));
        Check.law(v, "bar hour >21;");
        Check.due("the last minute is too late", -1, () -> v.when(0, 0, 9960, 0));
        Check.law(v, "");
        Check.due("the last minute", 9999, () -> v.when(0, 0, 9999, 2));
        v.aside(0);
        Check.due("lawful is by rules alone", 3, () -> v.when(0, 0, 3, 0));
    }

    private static void refusals() {
        ListedGoods x = Check.with(HOUSE, "bar ill;");
        int[][] absent = {{4, 0}, {-1, 0}, {0, 3}, {0, -1}};
        int[][] unfit = {{-1, 0}, {10000, 0}, {0, -1}, {0, 3}};
        for (int[] a : absent) {
            for (int minute : new int[] {0, 10000}) {
                Check.refused("bars", Check.ABSENT, () -> x.bars(a[0], a[1], minute, 3));
                Check.refused("late", Check.ABSENT, () -> x.late(a[0], a[1], minute, 3));
                Check.refused("isSo", Check.ABSENT, () -> x.isSo(0, a[0], a[1], minute, 3) ? 1 : 0);
                Check.refused("take", Check.ABSENT, () -> x.take(a[0], a[1], minute, 3));
                Check.refused("when", Check.ABSENT, () -> x.when(a[0], a[1], minute, 3));
            }
        }
        for (int[] u : unfit) {
            Check.refused("bars", Check.UNFIT, () -> x.bars(0, 0, u[0], u[1]));
            Check.refused("late", Check.UNFIT, () -> x.late(0, 0, u[0], u[1]));
            Check.refused("isSo", Check.UNFIT, () -> x.isSo(0, 0, 0, u[0], u[1]) ? 1 : 0);
            Check.refused("isSo without a rule", Check.ABSENT, () -> x.isSo(1, 0, 0, u[0], u[1]) ? 1 : 0);
            Check.refused("take", Check.UNFIT, () -> x.take(0, 0, u[0], u[1]));
            Check.refused("when", Check.UNFIT, () -> x.when(0, 0, u[0], u[1]));
        }
        Check.refused("rule -1", Check.ABSENT, () -> x.isSo(-1, 0, 0, 0, 0) ? 1 : 0);
        x.take(0, 0, 50, 0);
        Check.refused("a wrong door ahead of the order", Check.UNFIT, () -> x.take(0, 1, 40, 3));
        Check.refused("the order", Check.UNTIMELY, () -> x.take(0, 1, 49, 0));
        Check.due("counted", 45, () -> x.status(0));
        Check.due("counted", 21, () -> x.status(1));
        Check.due("counted", 1, () -> x.status(2));
    }
}
