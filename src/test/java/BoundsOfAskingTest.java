/** The boundary cases of promises 7 to 14 and of what bars a taking: one test for each sentence that names some. */
public final class BoundsOfAskingTest {
    private static final int[] FAR = {Integer.MIN_VALUE, -1, Integer.MAX_VALUE};
    private static final String HOUSE = "person 0 999;person 999 0;good 0 1 0;good 1 999 5;good 0 12 3;part 1 0 11;part 2 1 1;"
            + "debt 0 1 9999;debt 1 9999 0;fee 0 99;fee 1 99;fee 2 99;fee 3 99;";

    public static void main(String[] args) throws IllegalAccessException {
        Check.runAll(BoundsOfAskingTest.class);
    }

    private static ListedGoods plain() {
        return Check.with(HOUSE, "bar ill;bar forced;");
    }

    private interface Asking {
        long of(ListedGoods x, int n);
    }

    /* Numbers from the first one behind the last on, and those below 0. */
    private static void absent(String what, int howMany, Asking asking) {
        for (int n : new int[] {Integer.MIN_VALUE, -1, howMany, howMany + 1, Integer.MAX_VALUE}) {
            ListedGoods x = plain();
            Check.refusedAndAllStays(what + " " + n, Check.ABSENT, x, () -> asking.of(x, n));
        }
        ListedGoods y = plain();
        asking.of(y, howMany - 1);
        Check.due(what + ": the last one is there", 0, () -> y.status(0));
    }

    private static void unfit(String what, int least, int most, Asking asking) {
        for (int n : new int[] {Integer.MIN_VALUE, least - 1, most + 1, Integer.MAX_VALUE}) {
            ListedGoods x = plain();
            Check.refusedAndAllStays(what + " " + n, Check.UNFIT, x, () -> asking.of(x, n));
        }
        ListedGoods y = plain();
        asking.of(y, least);
        asking.of(y, most);
        Check.due(what + ": the least and the most are fit", 0, () -> y.status(1));
    }

    /* ---- promise 7 ---- */

    static void ofAPerson() {
        Check.sentence("Of a PERSON: 0 NEEDS, 1 STAGE (NONE), 2 FEES, 3 COIN, 4 what is left of it");
        ListedGoods x = plain();
        int[][] first = {{999, -1, 0, 0, 0}, {0, -1, 0, 0, 0}};
        for (int p = 0; p < 2; p++) {
            for (int what = 0; what <= 4; what++) {
                int pp = p;
                int w = what;
                Check.due("person " + p + " " + w, first[p][w], () -> x.person(pp, w));
            }
        }
        x.stage(0, 0);
        Check.due("the first stage", 0, () -> x.person(0, 1));
        Check.due("its fee", 99, () -> x.person(0, 2));
        x.stage(0, 3);
        Check.due("the last stage", 3, () -> x.person(0, 1));
        Check.due("all fees", 396, () -> x.person(0, 2));
        Check.due("not another's", -1, () -> x.person(1, 1));
        Check.due("nor his fees", 0, () -> x.person(1, 2));
        x.take(0, 0, 0, 0);
        x.sell(0, 9999, 0);
        Check.due("coin of the highest price", 9999, () -> x.person(0, 3));
        Check.due("less fees and a debt of 1", 9602, () -> x.person(0, 4));
    }

    static void ofAPersonWhat() {
        Check.sentence("person: IllegalArgumentException: another what");
        unfit("person", 0, 4, (x, n) -> x.person(1, n));
    }

    static void noSuchPerson() {
        Check.sentence("NoSuchElementException: no such PERSON");
        absent("person", 2, (x, n) -> x.person(n, 0));
        absent("income", 2, (x, n) -> x.income(n, 0));
        absent("part", 2, (x, n) -> x.part(0, n));
        absent("stage", 2, (x, n) -> x.stage(n, 0));
        absent("spare", 2, (x, n) -> x.spare(n, 0));
        absent("drawn", 2, (x, n) -> x.drawn(n, 0, 0));
    }

    static void noSuchGood() {
        Check.sentence("NoSuchElementException: no such GOOD");
        absent("good", 3, (x, n) -> x.good(n, 0));
        absent("part", 3, (x, n) -> x.part(n, 0));
        absent("bars", 3, (x, n) -> x.bars(0, n, 0, 0));
        absent("late", 3, (x, n) -> x.late(0, n, 0, 0));
        absent("isSo", 3, (x, n) -> x.isSo(0, 0, n, 0, 0) ? 1 : 0);
        absent("take", 3, (x, n) -> x.take(0, n, 0, 0));
        absent("sell", 3, (x, n) -> x.sell(n, 0, 0));
        absent("when", 3, (x, n) -> x.when(0, n, 0, 0));
    }

    static void noSuchDebt() {
        Check.sentence("NoSuchElementException: no such DEBT");
        absent("debt", 2, (x, n) -> x.debt(n, 0));
        absent("bars", 2, (x, n) -> x.bars(n, 0, 0, 0));
        absent("late", 2, (x, n) -> x.late(n, 0, 0, 0));
        absent("isSo", 2, (x, n) -> x.isSo(0, n, 0, 0, 0) ? 1 : 0);
        absent("take", 2, (x, n) -> x.take(n, 0, 0, 0));
        absent("aside", 2, (x, n) -> x.aside(n));
        absent("promise", 2, (x, n) -> x.promise(n, 1, 0));
        absent("best", 2, (x, n) -> x.best(n, 0, 0));
        absent("cover", 2, (x, n) -> x.cover(n, 0, 0, 0));
        absent("when", 2, (x, n) -> x.when(n, 0, 0, 0));
    }

    static void noSuchRule() {
        Check.sentence("NoSuchElementException: no such RULE");
        absent("isSo", 2, (x, n) -> x.isSo(n, 0, 0, 0, 0) ? 1 : 0);
    }

    static void noSuchPromise() {
        Check.sentence("NoSuchElementException: no such PROMISE");
        for (int n : new int[] {Integer.MIN_VALUE, -1, 2, 8, Integer.MAX_VALUE}) {
            ListedGoods x = plain();
            x.promise(0, 1, 0);
            x.promise(1, 1, 0);
            Check.refusedAndAllStays("kept " + n, Check.ABSENT, x, () -> x.kept(n, 0));
            Check.due("the last one is there", -1, () -> x.kept(1, 0));
            x.forget();
            Check.refused("none is left", Check.ABSENT, () -> x.kept(0, 0));
        }
    }

    static void aheadOfOthers() {
        Check.sentence("NoSuchElementException (so below, ahead of others)");
        for (int n : FAR) {
            ListedGoods x = plain();
            x.take(0, 0, 9, 0);
            Check.refused("person", Check.ABSENT, () -> x.person(n, n));
            Check.refused("income", Check.ABSENT, () -> x.income(n, n));
            Check.refused("good", Check.ABSENT, () -> x.good(n, n));
            Check.refused("debt", Check.ABSENT, () -> x.debt(n, n));
            Check.refused("bars: debt", Check.ABSENT, () -> x.bars(n, 0, n, n));
            Check.refused("bars: good", Check.ABSENT, () -> x.bars(0, n, n, n));
            Check.refused("late: debt", Check.ABSENT, () -> x.late(n, 0, n, n));
            Check.refused("late: good", Check.ABSENT, () -> x.late(0, n, n, n));
            Check.refused("isSo: rule", Check.ABSENT, () -> x.isSo(n, 0, 0, n, n) ? 1 : 0);
            Check.refused("isSo: debt", Check.ABSENT, () -> x.isSo(0, n, 0, n, n) ? 1 : 0);
            Check.refused("isSo: good", Check.ABSENT, () -> x.isSo(0, 0, n, n, n) ? 1 : 0);
            Check.refused("take: debt", Check.ABSENT, () -> x.take(n, 0, n, n));
            Check.refused("take: good", Check.ABSENT, () -> x.take(0, n, n, n));
            Check.refused("take: earlier", Check.ABSENT, () -> x.take(0, n, 8, 0));
            Check.refused("stage", Check.ABSENT, () -> x.stage(n, n));
            Check.refused("sell: price", Check.ABSENT, () -> x.sell(n, n, 0));
            Check.refused("sell: minute", Check.ABSENT, () -> x.sell(n, 0, n));
            Check.refused("promise: m", Check.ABSENT, () -> x.promise(n, n, 0));
            Check.refused("promise: month", Check.ABSENT, () -> x.promise(n, 1, n));
            Check.refused("kept", Check.ABSENT, () -> x.kept(n, n));
            Check.refused("spare", Check.ABSENT, () -> x.spare(n, n));
            Check.refused("best: month", Check.ABSENT, () -> x.best(n, n, 0));
            Check.refused("best: what", Check.ABSENT, () -> x.best(n, 0, n));
            Check.refused("cover: minute", Check.ABSENT, () -> x.cover(n, n, 0, 0));
            Check.refused("cover: door", Check.ABSENT, () -> x.cover(n, 0, n, 0));
            Check.refused("cover: what", Check.ABSENT, () -> x.cover(n, 0, 0, n));
            Check.refused("when: debt", Check.ABSENT, () -> x.when(n, 0, n, n));
            Check.refused("when: good", Check.ABSENT, () -> x.when(0, n, n, n));
            Check.refused("drawn", Check.ABSENT, () -> x.drawn(n, 0, n));
            Check.due("all counted", 29, () -> x.status(0));
            Check.due("no other counted", 0, () -> x.status(1));
            Check.due("nor untimely ones", 0, () -> x.status(2));
        }
    }

    /* ---- promises 8 to 11 ---- */

    static void incomeInMonths() {
        Check.sentence("INCOME in a MONTH (0 to 35)");
        unfit("income", 0, 35, (x, n) -> x.income(0, n));
    }

    static void ofAGood() {
        Check.sentence("3 for how many DEBTS it is on the LIST, 4 what it was SOLD for (NONE: not), 5 whether it is GIVEN BACK (1, 0)");
        ListedGoods x = Check.with("person 0 0;good 0 9 0;good 0 9 0;good 0 9 0;claim 1 0 0;" + "debt0 1 0;".repeat(6), "");
        for (int debt = 0; debt < 6; debt++) {
            int n = debt;
            Check.due("on it for " + n, n, () -> x.good(0, 3));
            x.take(debt, 0, 0, 0);
        }
        Check.due("on it for all", 6, () -> x.good(0, 3));
        Check.due("another is not", 0, () -> x.good(1, 3));
        x.take(0, 1, 0, 0);
        x.take(0, 2, 0, 0);
        Check.due("not sold", -1, () -> x.good(0, 4));
        x.sell(0, 4, 0);
        Check.due("refused: not sold", -1, () -> x.good(0, 4));
        x.sell(0, 5, 0);
        Check.due("sold", 5, () -> x.good(0, 4));
        Check.due("still on it", 6, () -> x.good(0, 3));
        Check.due("sold is not given back", 0, () -> x.good(0, 5));
        x.sell(1, 9, 0);
        Check.due("given back", 1, () -> x.good(1, 5));
        Check.due("is not sold", -1, () -> x.good(1, 4));
        x.sell(2, 9999, 0);
        Check.due("the highest price", 9999, () -> x.good(2, 4));
    }

    static void ofAGoodWhat() {
        Check.sentence("good: IllegalArgumentException: another what");
        unfit("good", 0, 5, (x, n) -> x.good(0, n));
    }

    static void twelfths() {
        Check.sentence("How many of 12 of a GOOD a PERSON has");
        ListedGoods x = plain();
        Check.due("all", 12, () -> x.part(0, 0));
        Check.due("none", 0, () -> x.part(0, 1));
        Check.due("the most of another", 11, () -> x.part(1, 0));
        Check.due("the least rest", 1, () -> x.part(1, 1));
        Check.due("the least of another", 1, () -> x.part(2, 1));
        Check.due("the most of a rest", 11, () -> x.part(2, 0));
    }

    static void ofADebt() {
        Check.sentence("Of a DEBT: 0 PERSON, 1 A, 2 WRIT, 3 what it gets by RANKS, 4 whether it is SET ASIDE (1, 0)");
        ListedGoods x = plain();
        Check.due("the first person's", 0, () -> x.debt(0, 0));
        Check.due("the last person's", 1, () -> x.debt(1, 0));
        Check.due("the least", 1, () -> x.debt(0, 1));
        Check.due("the most", 9999, () -> x.debt(1, 1));
        Check.due("the latest", 9999, () -> x.debt(0, 2));
        Check.due("the earliest", 0, () -> x.debt(1, 2));
        Check.due("nothing yet", 0, () -> x.debt(0, 3));
        Check.due("not yet", 0, () -> x.debt(0, 4));
        x.take(0, 0, 0, 0);
        x.sell(0, 1, 0);
        Check.due("all that is owed", 1, () -> x.debt(0, 3));
        x.aside(0);
        Check.due("set aside", 1, () -> x.debt(0, 4));
        Check.due("it gets nothing", 0, () -> x.debt(0, 3));
        Check.due("another is not", 0, () -> x.debt(1, 4));
    }

    static void ofADebtWhat() {
        Check.sentence("debt: IllegalArgumentException: another what");
        unfit("debt", 0, 4, (x, n) -> x.debt(0, n));
    }

    /* ---- promises 12 to 14 ---- */

    static void minuteAndDoor() {
        Check.sentence("TAKING a GOOD for a DEBT in a MINUTE (0 to 9,999) by a DOOR (0 let in, 1 open, 2 forced)");
        unfit("bars: minute", 0, 9999, (x, n) -> x.bars(0, 0, n, 0));
        unfit("bars: door", 0, 2, (x, n) -> x.bars(0, 0, 0, n));
        unfit("late: minute", 0, 9999, (x, n) -> x.late(0, 0, n, 0));
        unfit("late: door", 0, 2, (x, n) -> x.late(0, 0, 0, n));
        unfit("isSo: minute", 0, 9999, (x, n) -> x.isSo(0, 0, 0, n, 0) ? 1 : 0);
        unfit("isSo: door", 0, 2, (x, n) -> x.isSo(0, 0, 0, 0, n) ? 1 : 0);
        unfit("take: minute", 0, 9999, (x, n) -> x.take(0, 0, n, 0));
        unfit("take: door", 0, 2, (x, n) -> x.take(0, 0, 0, n));
        unfit("cover: minute", 0, 9999, (x, n) -> x.cover(0, n, 0, 0));
        unfit("cover: door", 0, 2, (x, n) -> x.cover(0, 0, n, 0));
        unfit("when: minute", 0, 9999, (x, n) -> x.when(0, 0, n, 0));
        unfit("when: door", 0, 2, (x, n) -> x.when(0, 0, 0, n));
    }

    static void firstRule() {
        Check.sentence("It is BARRED by the first RULE that is so; lawful by none");
        String house = "person 0 0;good 0 5 1;debt 0 1 0;";
        ListedGoods x = Check.with(house, "");
        Check.due("no rules", -1, () -> x.bars(0, 0, 0, 0));
        Check.due("nor late", -1, () -> x.late(0, 0, 0, 0));
        Check.law(x, "bar kind 0;".repeat(10));
        Check.due("none of ten", -1, () -> x.bars(0, 0, 0, 0));
        Check.law(x, "bar kind 0;".repeat(9) + "bar kind 1;");
        Check.due("the tenth", 9, () -> x.bars(0, 0, 0, 0));
        Check.due("late too", 9, () -> x.late(0, 0, 0, 0));
        Check.law(x, "bar kind 1;".repeat(10));
        Check.due("the first of ten", 0, () -> x.bars(0, 0, 0, 0));
        Check.law(x, "bar kind 0;bar kind 1;bar kind 1;");
        Check.due("the first of two", 1, () -> x.bars(0, 0, 0, 0));
        Check.due("isSo asks one alone", 0, () -> x.isSo(0, 0, 0, 0, 0) ? 1 : 0);
        Check.due("though another bars it", 1, () -> x.isSo(2, 0, 0, 0, 0) ? 1 : 0);
    }

    private static void so(boolean want, String house, String atom, int minute, int door) {
        ListedGoods x = Check.with(house, "bar " + atom + ";");
        Check.due(atom + " in " + minute + " by " + door, want ? 1 : 0, () -> x.isSo(0, 0, 0, minute, door) ? 1 : 0);
    }

    static void kindAndWorth() {
        Check.sentence("kind: the GOOD's; worth: its V");
        for (int kind = 0; kind <= 5; kind++) {
            String house = "person 0 0;good 0 7 " + kind + ";debt 0 1 0;";
            for (int k = 0; k <= 5; k++) {
                so(k == kind, house, "kind " + k, 0, 0);
            }
        }
        for (int v : new int[] {1, 500, 999}) {
            String house = "person 0 0;good 0 " + v + " 0;debt 0 1 0;";
            so(false, house, "worth <" + v, 0, 0);
            so(true, house, "worth <" + (v + 1), 0, 0);
            so(false, house, "worth >" + v, 0, 0);
            so(true, house, "worth >" + (v - 1), 0, 0);
        }
        so(false, "person 0 0;good 0 999 0;debt 0 1 0;", "worth >9999", 0, 0);
        so(true, "person 0 0;good 0 1 0;debt 0 1 0;", "worth >0", 0, 0);
    }

    static void owedByWrits() {
        Check.sentence("owed: all DEBTS of that PERSON with a WRIT of that MINUTE or ahead, not SET ASIDE, together");
        String house = "person 0 0;person 0 0;good 0 7 0;debt 0 10 50;debt 0 20 51;debt 1 400 0;debt 0 9999 9999;";
        so(false, house, "owed >0", 49, 0);
        so(true, house, "owed >9", 50, 0);
        so(false, house, "owed >10", 50, 0);
        so(true, house, "owed >29", 51, 0);
        so(false, house, "owed >30", 9998, 0);
        so(true, house, "owed >9999", 9999, 0);
        so(false, house, "owed <9999", 9999, 0);
        String most = "person 0 0;good 0 7 0;" + "debt 0 9999 0;".repeat(6);
        so(true, most, "owed >9999", 0, 0);
        ListedGoods x = Check.with(house, "bar owed >10;bar owed >9;");
        Check.due("both", 0, () -> x.bars(0, 0, 51, 0));
        x.aside(1);
        Check.due("not what is set aside", 1, () -> x.bars(0, 0, 51, 0));
        x.aside(0);
        Check.due("even if it is that one", -1, () -> x.bars(0, 0, 51, 0));
    }

    static void hourOfADay() {
        Check.sentence("hour: MINUTES by 60, cut, and what that leaves by 24");
        String house = "person 0 0;good 0 7 0;debt 0 1 0;";
        int[][] hours = {{0, 0}, {59, 0}, {60, 1}, {119, 1}, {1379, 22}, {1380, 23}, {1439, 23}, {1440, 0}, {1499, 0},
            {1500, 1}, {2879, 23}, {2880, 0}, {9959, 21}, {9960, 22}, {9999, 22}};
        for (int[] h : hours) {
            so(false, house, "hour <" + h[1] + " or hour >" + h[1], h[0], 0);
        }
        so(false, house, "hour >23", 1439, 0);
        so(true, house, "hour <24", 1439, 0);
        so(false, house, "hour <0", 0, 0);
    }

    static void illByThen() {
        Check.sentence("ill: it is told of that PERSON by then");
        String house = "person 0 0;person 0 0;good 0 7 0;debt 0 1 0;";
        so(false, house, "ill", 9999, 0);
        so(true, house + "ill 0 0;", "ill", 0, 0);
        so(false, house + "ill 0 700;", "ill", 699, 0);
        so(true, house + "ill 0 700;", "ill", 700, 0);
        so(true, house + "ill 0 700;", "ill", 701, 0);
        so(false, house + "ill 0 9999;", "ill", 9998, 0);
        so(true, house + "ill 0 9999;", "ill", 9999, 0);
        so(false, house + "ill 1 0;", "ill", 9999, 0);
        // The DEBTOR is asked about, not the OWNER.
        so(false, "person 0 0;person 0 0;good 1 7 0;debt 0 1 0;ill 1 0;", "ill", 0, 0);
    }

    static void claimedByThen() {
        Check.sentence("claimed: a third has said so by then; proved: has proved it by then");
        String house = "person 0 0;good 0 7 0;good 0 7 0;debt 0 1 0;";
        so(false, house, "claimed or proved", 9999, 0);
        so(false, house + "claim 0 700 800;", "claimed", 699, 0);
        so(true, house + "claim 0 700 800;", "claimed", 700, 0);
        so(true, house + "claim 0 700 800;", "claimed", 800, 0);
        so(false, house + "claim 0 700 800;", "proved", 799, 0);
        so(true, house + "claim 0 700 800;", "proved", 800, 0);
        so(true, house + "claim 0 0 0;", "claimed and proved", 0, 0);
        so(true, house + "claim 0 9999 9999;", "claimed and proved", 9999, 0);
        so(false, house + "claim 0 9999 9999;", "claimed or proved", 9998, 0);
        so(false, house + "claim 0 0 10000;", "proved", 9999, 0);
        so(false, house + "claim 1 0 0;", "claimed or proved", 9999, 0);
    }

    static void forcedDoor() {
        Check.sentence("forced: the DOOR is");
        String house = "person 0 0;good 0 7 0;debt 0 1 0;";
        so(false, house, "forced", 0, 0);
        so(false, house, "forced", 0, 1);
        so(true, house, "forced", 0, 2);
    }

    static void partedAndOther() {
        Check.sentence("parted: another one has part of it (the OWNER's rest is a part); other: that PERSON has no part of it");
        String own = "person 0 0;person 0 0;person 0 0;good 0 7 0;debt 0 1 0;";
        String others = "person 0 0;person 0 0;person 0 0;good 1 7 0;debt 0 1 0;";
        so(false, own, "parted", 0, 0);
        so(false, own, "other", 0, 0);
        so(true, own + "part 0 1 1;", "parted", 0, 0);
        so(true, own + "part 0 1 11;", "parted", 0, 0);
        so(false, own + "part 0 1 11;", "other", 0, 0);
        so(true, others, "parted", 0, 0);
        so(true, others, "other", 0, 0);
        so(true, others + "part 0 0 11;", "parted", 0, 0);
        so(false, others + "part 0 0 1;", "other", 0, 0);
        so(true, others + "part 0 2 11;", "other", 0, 0);
    }

    static void hindsight() {
        Check.sentence("In HINDSIGHT all that is ever told (ill, claimed, proved; not never) counts as known; the rest as it was");
        String house = "person 0 0;good 0 7 0;debt 0 10 500;";
        ListedGoods x = Check.with(house + "ill 0 9999;claim 0 9999 10000;", "bar proved;bar ill;bar claimed;");
        Check.due("never is not proved; ill in the last minute", 1, () -> x.late(0, 0, 0, 0));
        Check.due("not known then", -1, () -> x.bars(0, 0, 9998, 0));
        Check.law(x, "bar proved;");
        Check.due("never", -1, () -> x.late(0, 0, 9999, 0));
        Check.law(x, "bar claimed;");
        Check.due("claimed in the last minute", 0, () -> x.late(0, 0, 0, 0));
        ListedGoods y = Check.with(house + "claim 0 0 9999;", "bar proved;");
        Check.due("proved in the last minute", 0, () -> y.late(0, 0, 0, 0));
        ListedGoods z = Check.with(house, "bar ill or claimed or proved;bar owed >0;bar hour >0;bar forced;");
        Check.due("nothing is told, owed as it was", -1, () -> z.late(0, 0, 59, 0));
        Check.due("the hour as it was", 2, () -> z.late(0, 0, 60, 0));
        Check.due("the door as it was", 3, () -> z.late(0, 0, 59, 2));
        Check.due("owed as it was", 2, () -> z.late(0, 0, 499, 0));
        Check.due("owed from then on", 1, () -> z.late(0, 0, 500, 0));
        z.aside(0);
        Check.due("what is set aside is not owed", 2, () -> z.late(0, 0, 500, 0));
        ListedGoods v = Check.with(house + "ill 0 9999;", "bar not ill;");
        Check.due("it may be lawful in hindsight alone", -1, () -> v.late(0, 0, 0, 0));
        Check.due("and barred then", 0, () -> v.bars(0, 0, 0, 0));
        Check.due("isSo is by what was known", 1, () -> v.isSo(0, 0, 0, 0, 0) ? 1 : 0);
    }

    static void testsBind() {
        Check.sentence("TEST: O { \"or\" O }; O: N { \"and\" N }; N: \"not\" N, \"[\" TEST \"]\", or an ATOM");
        String house = "person 0 0;good 0 7 1;debt 0 1 0;";
        so(true, house, "kind 1 or kind 1 and kind 0", 0, 0);
        so(false, house, "[kind 1 or kind 1]and kind 0", 0, 0);
        so(true, house, "kind 0 and kind 0 or kind 1", 0, 0);
        so(false, house, "kind 0 and[kind 0 or kind 1]", 0, 0);
        so(false, house, "not kind 1 and kind 0 or kind 0", 0, 0);
        so(true, house, "not kind 0 or kind 1 and kind 0", 0, 0);
        so(true, house, "not[kind 1 and kind 0]", 0, 0);
        so(true, house, "not not kind 1", 0, 0);
        so(false, house, "not ".repeat(71) + "kind 1", 0, 0);
        so(true, house, "[".repeat(144) + "kind1" + "]".repeat(144), 0, 0);
        so(true, house, "not[".repeat(56) + "kind1" + "]".repeat(56), 0, 0);
        so(true, house, "kind 0 or ".repeat(28) + "kind 1", 0, 0);
        so(false, house, "kind1and[".repeat(28) + "kind0" + "]".repeat(28), 0, 0);
    }
}
