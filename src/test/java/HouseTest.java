/** Promises 7 to 11: what can be asked of a PERSON, a GOOD and a DEBT. */
public final class HouseTest {
    private static final String HOUSE =
            "person 500 300;person 7 9;month 0 3 10;month 0 35 20;month 0 3 11;month 1 0 999;"
            + "good 0 100 0;good 1 999 5;good 1 1 3;part 0 1 4;part 1 0 11;"
            + "debt 0 50 7;debt 1 9999 9999;debt 0 50 7;"
            + "fee 0 3;fee 2 99;fee 0 4;";

    public static void main(String[] args) {
        person();
        income();
        good();
        part();
        debt();
        absenceComesFirst();
        Check.end("HouseTest");
    }

    private static void person() {
        ListedGoods x = Check.with(HOUSE, "");
        Check.due("needs", 300, () -> x.person(0, 0));
        Check.due("needs of 1", 9, () -> x.person(1, 0));
        Check.due("no stage", -1, () -> x.person(0, 1));
        Check.due("no fees", 0, () -> x.person(0, 2));
        Check.due("no coin", 0, () -> x.person(0, 3));
        Check.due("nothing left", 0, () -> x.person(0, 4));
        x.stage(0, 2);
        Check.due("a stage", 2, () -> x.person(0, 1));
        Check.due("its fees, the last of one stage counts", 103, () -> x.person(0, 2));
        Check.due("another's stage", -1, () -> x.person(1, 1));
        x.take(0, 0, 0, 0);
        x.sell(0, 200, 0);
        Check.due("coin: 8 of 12 of 200, the rest of 66", 134, () -> x.person(0, 3));
        Check.due("left: 134 less 103, all for debts", 0, () -> x.person(0, 4));
        Check.due("a debt gets half of 31, and one", 16, () -> x.debt(0, 3));
        Check.due("its like gets half", 15, () -> x.debt(2, 3));
        Check.refused("what -1", Check.UNFIT, () -> x.person(0, -1));
        Check.refused("what 5", Check.UNFIT, () -> x.person(0, 5));
        Check.refused("person 2", Check.ABSENT, () -> x.person(2, 0));
        Check.refused("person -1", Check.ABSENT, () -> x.person(-1, 0));
    }

    private static void income() {
        ListedGoods x = Check.with(HOUSE, "");
        Check.due("ordinary", 500, () -> x.income(0, 0));
        Check.due("the last counts", 11, () -> x.income(0, 3));
        Check.due("month 4", 500, () -> x.income(0, 4));
        Check.due("month 35", 20, () -> x.income(0, 35));
        Check.due("of 1", 999, () -> x.income(1, 0));
        Check.due("of 1 later", 7, () -> x.income(1, 1));
        Check.refused("month 36", Check.UNFIT, () -> x.income(0, 36));
        Check.refused("month -1", Check.UNFIT, () -> x.income(0, -1));
        Check.refused("person 2", Check.ABSENT, () -> x.income(2, 0));
        Check.refused("person -1", Check.ABSENT, () -> x.income(-1, 0));
    }

    private static void good() {
        ListedGoods x = Check.with(HOUSE, "");
        int[][] want = {{0, 100, 0, 0, -1, 0}, {1, 999, 5, 0, -1, 0}, {1, 1, 3, 0, -1, 0}};
        for (int g = 0; g < 3; g++) {
            for (int what = 0; what < 6; what++) {
                int gg = g;
                int w = what;
                Check.due("good " + g + " " + w, want[g][w], () -> x.good(gg, w));
            }
        }
        x.take(0, 1, 0, 0);
        Check.due("on the list once", 1, () -> x.good(1, 3));
        x.take(1, 1, 0, 0);
        x.take(2, 1, 0, 0);
        Check.due("joined", 3, () -> x.good(1, 3));
        Check.due("another is not", 0, () -> x.good(0, 3));
        x.sell(1, 5000, 0);
        Check.due("sold", 5000, () -> x.good(1, 4));
        Check.due("still on the list", 3, () -> x.good(1, 3));
        Check.refused("what -1", Check.UNFIT, () -> x.good(0, -1));
        Check.refused("what 6", Check.UNFIT, () -> x.good(0, 6));
        Check.refused("good 3", Check.ABSENT, () -> x.good(3, 0));
        Check.refused("good -1", Check.ABSENT, () -> x.good(-1, 0));
    }

    private static void part() {
        ListedGoods x = Check.with(HOUSE, "");
        Check.due("the owner's rest", 8, () -> x.part(0, 0));
        Check.due("a part", 4, () -> x.part(0, 1));
        Check.due("eleven", 11, () -> x.part(1, 0));
        Check.due("one left", 1, () -> x.part(1, 1));
        Check.due("none", 0, () -> x.part(2, 0));
        Check.due("all", 12, () -> x.part(2, 1));
        Check.refused("good 3", Check.ABSENT, () -> x.part(3, 0));
        Check.refused("person 2", Check.ABSENT, () -> x.part(0, 2));
        Check.refused("good -1", Check.ABSENT, () -> x.part(-1, 0));
        Check.refused("person -1", Check.ABSENT, () -> x.part(0, -1));
        Check.house(x, HOUSE.replace("part 0 1 4;part 1 0 11;", ""));
        Check.due("parts of an old house are gone", 12, () -> x.part(0, 0));
        Check.due("parts of an old house are gone from others", 0, () -> x.part(1, 0));
    }

    private static void debt() {
        ListedGoods x = Check.with(HOUSE, "");
        int[][] want = {{0, 50, 7, 0, 0}, {1, 9999, 9999, 0, 0}, {0, 50, 7, 0, 0}};
        for (int d = 0; d < 3; d++) {
            for (int what = 0; what < 5; what++) {
                int dd = d;
                int w = what;
                Check.due("debt " + d + " " + w, want[d][w], () -> x.debt(dd, w));
            }
        }
        x.aside(2);
        Check.due("set aside", 1, () -> x.debt(2, 4));
        Check.due("its like is not", 0, () -> x.debt(0, 4));
        Check.refused("what -1", Check.UNFIT, () -> x.debt(0, -1));
        Check.refused("what 5", Check.UNFIT, () -> x.debt(0, 5));
        Check.refused("debt 3", Check.ABSENT, () -> x.debt(3, 0));
        Check.refused("debt -1", Check.ABSENT, () -> x.debt(-1, 0));
    }

    private static void absenceComesFirst() {
        ListedGoods x = Check.with(HOUSE, "");
        Check.refused("person", Check.ABSENT, () -> x.person(4, 9));
        Check.refused("income", Check.ABSENT, () -> x.income(4, 99));
        Check.refused("good", Check.ABSENT, () -> x.good(12, 9));
        Check.refused("debt", Check.ABSENT, () -> x.debt(6, 9));
        Check.due("counted", 4, () -> x.status(0));
        Check.due("no other", 0, () -> x.status(1));
    }
}
