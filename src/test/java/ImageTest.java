/** Promises 29 to 32: IMAGES, what is refused, counts. */
public final class ImageTest {
    private static final String HOUSE = "person 100 0;good 0 80 0;good 0 40 0;claim 1 0 0;"
            + "debt 0 30 0;debt 0 20 0;fee 0 5;";

    public static void main(String[] args) {
        all();
        three();
        ofLessThanNow();
        status();
        count();
        Check.end("ImageTest");
    }

    private static void all() {
        ListedGoods x = Check.with(HOUSE, "");
        x.take(0, 0, 50, 1);
        x.promise(0, 9, 3);
        Check.due("one", 1, x::image);
        x.take(1, 0, 60, 0);
        x.take(1, 1, 60, 0);
        x.sell(0, 80, 0);
        x.sell(1, 80, 0);
        x.aside(0);
        x.stage(0, 2);
        x.promise(1, 1, 1);
        Check.due("none left", 0, x::restore);
        Check.due("the list", 1, () -> x.told(4));
        Check.due("its act", 50, () -> x.act(0, 2));
        Check.due("not sold", -1, () -> x.good(0, 4));
        Check.due("not given back", 0, () -> x.good(1, 5));
        Check.due("not set aside", 0, () -> x.debt(0, 4));
        Check.due("no stage", -1, () -> x.person(0, 1));
        Check.due("promises", 1, () -> x.told(5));
        Check.due("its month", 6, () -> x.kept(0, 1));
        Check.due("from the minute of that act on", 1, () -> x.take(1, 0, 50, 0));
        Check.due("gone", -1, x::restore);
        Check.due("nothing changed", 2, () -> x.told(4));
    }

    private static void three() {
        ListedGoods x = Check.with(HOUSE, "");
        for (int i = 1; i <= 3; i++) {
            int n = i;
            x.promise(0, n, 0);
            Check.due("image " + n, n, x::image);
        }
        x.promise(0, 4, 0);
        Check.due("there are 3", -1, x::image);
        Check.due("3", 3, () -> x.count(0));
        for (int i = 2; i >= 0; i--) {
            int n = i;
            Check.due("left", n, x::restore);
            Check.due("the latest first", n + 1, () -> x.told(5));
        }
        Check.due("none", -1, x::restore);
        Check.due("all stays", 1, () -> x.told(5));
    }

    /* An image of something, restored over nothing. */
    private static void ofLessThanNow() {
        ListedGoods x = Check.with(HOUSE, "");
        x.take(0, 0, 50, 1);
        x.take(0, 1, 51, 2);
        x.sell(0, 70, 0);
        x.sell(1, 70, 0);
        x.aside(1);
        x.stage(0, 3);
        x.promise(1, 2, 3);
        x.image();
        x.image();
        x.forget();
        x.restore();
        Check.due("promises again", 1, () -> x.told(5));
        Check.due("sold", 70, () -> x.good(0, 4));
        Check.due("given back", 1, () -> x.good(1, 5));
        Check.due("set aside", 1, () -> x.debt(1, 4));
        Check.due("stage", 3, () -> x.person(0, 1));
        Check.due("door", 2, () -> x.act(1, 3));
        Check.law(x, "bar ill;");
        Check.due("a law leaves images", 1, () -> x.count(0));
        Check.due("a house takes them", 2, () -> Check.house(x, HOUSE));
        Check.due("none", 0, () -> x.count(0));
        Check.due("nothing of them", 1, x::image);
        x.restore();
        Check.due("the new house's list", 0, () -> x.told(4));
        Check.due("the new house's goods", -1, () -> x.good(0, 4));
    }

    private static void status() {
        ListedGoods x = Check.with(HOUSE, "");
        x.take(0, 0, 50, 0);
        x.image();
        for (int what = 0; what <= 2; what++) {
            int w = what;
            Check.due("none refused", 0, () -> x.status(w));
        }
        Check.refused("absent", Check.ABSENT, () -> x.part(0, 1));
        Check.refused("unfit", Check.UNFIT, () -> x.told(9));
        Check.refused("unfit", Check.UNFIT, () -> x.house(99));
        Check.refused("untimely", Check.UNTIMELY, () -> x.take(0, 1, 49, 0));
        Check.refused("untimely", Check.UNTIMELY, () -> x.take(0, 1, 0, 0));
        Check.refused("untimely", Check.UNTIMELY, () -> x.take(0, 0, 1, 0));
        x.take(0, 0, 50, 0);
        x.restore();
        Check.house(x, HOUSE);
        Check.law(x, "bar");
        Check.due("absent", 1, () -> x.status(0));
        Check.due("unfit", 2, () -> x.status(1));
        Check.due("untimely", 3, () -> x.status(2));
        Check.due("none such", -1, () -> x.status(3));
        Check.due("none such", -1, () -> x.status(-1));
        Check.due("none such", -1, () -> x.status(Integer.MIN_VALUE));
    }

    private static void count() {
        ListedGoods x = new ListedGoods();
        x.feed(0, 0, 0, 0, 0);
        x.image();
        x.image();
        Check.due("images", 2, () -> x.count(0));
        Check.due("bytes", 20, () -> x.count(1));
        x.restore();
        x.rules(7);
        Check.due("images", 1, () -> x.count(0));
        Check.due("bytes", 0, () -> x.count(1));
        Check.due("none such", -1, () -> x.count(2));
        Check.due("none such", -1, () -> x.count(-1));
        Check.due("nothing is refused by that", 0, () -> x.status(1));
    }
}
