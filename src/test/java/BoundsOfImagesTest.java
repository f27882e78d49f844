/** The boundary cases of promises 29 to 32: IMAGES, what is refused, counts. */
public final class BoundsOfImagesTest {
    private static final String HOUSE = "person 100 0;person 50 0;good 0 80 0;good 1 40 0;good 0 30 0;claim 1 0 0;"
            + "debt 0 30 0;debt 1 20 0;fee 0 5;fee 3 6;";

    public static void main(String[] args) throws IllegalAccessException {
        Check.runAll(BoundsOfImagesTest.class);
    }

    /* Something of all that an IMAGE keeps; more of all of it with each step. */
    private static void step(ListedGoods x, int step) {
        if (step == 0) {
            x.take(0, 0, 10, 1);
            x.take(0, 1, 11, 0);
            x.promise(0, 7, 1);
            x.stage(0, 0);
        } else if (step == 1) {
            x.sell(0, 80, 11);
            x.take(1, 2, 12, 2);
            x.promise(1, 3, 35);
            x.stage(0, 3);
        } else {
            x.sell(1, 40, 11);
            x.aside(1);
            x.forget();
            x.promise(1, 20, 0);
            x.stage(1, 2);
        }
    }

    /* As an IMAGE has it: the number of IMAGES and the bytes of the TAPE are none of its. */
    private static String kept(ListedGoods x) {
        return Check.all(x).replaceFirst("^(-?\\d+ -?\\d+) \\d+ \\d+", "$1");
    }

    /* ---- promise 29 ---- */

    static void threeAtMost() {
        Check.sentence("how many there are; -1: there are 3");
        ListedGoods x = Check.with(HOUSE, "");
        for (int i = 1; i <= 3; i++) {
            int n = i;
            Check.due("image " + n, n, x::image);
        }
        step(x, 0);
        String before = Check.all(x);
        Check.due("there are 3", -1, x::image);
        Check.due("still", -1, x::image);
        Check.same("all stays", before, Check.all(x));
        Check.due("it is no refusal", 0, () -> x.status(0) + x.status(1) + x.status(2));
        Check.due("the third is not of now", 2, x::restore);
        Check.due("but of then", 0, () -> x.told(4));
        Check.due("there is room again", 3, x::image);
        Check.due("once", -1, x::image);
    }

    static void ofNothing() {
        Check.sentence("An IMAGE of the LIST (empty)");
        ListedGoods x = new ListedGoods();
        Check.due("of a new object", 1, x::image);
        Check.due("restored", 0, x::restore);
        Check.due("no persons", 0, () -> x.told(0));
        ListedGoods y = Check.with(HOUSE, "");
        String before = Check.all(y);
        y.image();
        step(y, 0);
        step(y, 1);
        step(y, 2);
        y.restore();
        Check.same("nothing is on it again", before, Check.all(y));
    }

    static void changesNothing() {
        Check.sentence("An IMAGE of the LIST, what is SOLD, GIVEN BACK, SET ASIDE, STAGES, PROMISES");
        ListedGoods x = Check.with(HOUSE, "");
        step(x, 0);
        String before = kept(x);
        x.image();
        Check.same("to make one changes nothing", before, kept(x));
        step(x, 1);
        step(x, 2);
        x.restore();
        Check.same("all is as in it", before, kept(x));
        Check.due("no more of the list", -1, () -> x.act(2, 0));
        Check.due("not sold", -1, () -> x.good(0, 4));
        Check.due("not given back", 0, () -> x.good(1, 5));
        Check.due("not set aside", 0, () -> x.debt(1, 4));
        Check.due("the stage", 0, () -> x.person(0, 1));
        Check.due("no stage", -1, () -> x.person(1, 1));
        Check.due("one promise", 1, () -> x.told(5));
    }

    /* ---- promise 30 ---- */

    static void latestFirst() {
        Check.sentence("All is as in the latest IMAGE, which is gone: how many are left");
        ListedGoods x = Check.with(HOUSE, "");
        String[] then = new String[3];
        for (int i = 0; i < 3; i++) {
            step(x, i);
            then[i] = kept(x);
            x.image();
        }
        x.forget();
        x.stage(1, 3);
        for (int i = 2; i >= 0; i--) {
            int n = i;
            Check.due("left", n, x::restore);
            Check.same("as in image " + n, then[i], kept(x));
        }
    }

    static void thereIsNone() {
        Check.sentence("-1: there is none");
        ListedGoods x = Check.with(HOUSE, "");
        step(x, 0);
        String before = Check.all(x);
        Check.due("none was made", -1, x::restore);
        Check.same("all stays", before, Check.all(x));
        x.image();
        Check.due("the one", 0, x::restore);
        Check.due("it is gone", -1, x::restore);
        Check.due("it is no refusal", 0, () -> x.status(0) + x.status(1) + x.status(2));
        x.image();
        Check.house(x, HOUSE);
        Check.due("a house takes them", -1, x::restore);
        x.image();
        Check.law(x, "bar ill;");
        Check.due("a law leaves them", 0, x::restore);
        Check.due("and is not in them", 1, () -> x.told(3));
    }

    static void tapeIsNotInIt() {
        Check.sentence("An IMAGE (the TAPE, the LAW, the FAULT are not in it)");
        ListedGoods x = Check.with(HOUSE, "");
        x.image();
        x.feed(0, 0, 0, 0, 0);
        Check.due("restored", 0, x::restore);
        Check.due("the tape stays", 20, () -> x.count(1));
        x.image();
        x.rules(1);
        x.restore();
        Check.due("the fault stays", 0, x::fault);
    }

    /* ---- promise 31 ---- */

    static void refusedCalls() {
        Check.sentence("How many calls were refused: 0 NoSuchElementException, 1 IllegalArgumentException, 2 IllegalStateException");
        ListedGoods x = Check.with(HOUSE, "");
        step(x, 0);
        for (int i = 0; i < 5; i++) {
            Check.refused("absent", Check.ABSENT, () -> x.person(2, 9));
        }
        for (int i = 0; i < 4; i++) {
            Check.refused("unfit", Check.UNFIT, () -> x.person(1, 9));
        }
        for (int i = 0; i < 3; i++) {
            Check.refused("untimely", Check.UNTIMELY, () -> x.take(0, 2, 10, 0));
        }
        Check.due("absent", 5, () -> x.status(0));
        Check.due("unfit", 4, () -> x.status(1));
        Check.due("untimely", 3, () -> x.status(2));
        Check.due("to ask changes nothing", 5, () -> x.status(0));
    }

    static void answersAreNoRefusals() {
        Check.sentence("How many calls were refused (by an exception)");
        ListedGoods x = Check.with(HOUSE, "bar forced;");
        step(x, 0);
        Check.due("barred", -1, () -> x.take(0, 2, 20, 2));
        Check.due("on it", -2, () -> x.take(0, 0, 20, 0));
        Check.due("too little", -1, () -> x.sell(0, 1, 20));
        Check.due("given back", -2, () -> x.sell(1, 1, 20));
        Check.due("not on it", -3, () -> x.sell(2, 1, 20));
        Check.due("no image", -1, x::restore);
        Check.due("no act", -1, () -> x.act(9, 0));
        Check.due("no cover", -1, () -> x.cover(0, 0, 2, 0));
        Check.due("no minute", -1, () -> x.when(0, 0, 0, 2));
        Check.due("no such status", -1, () -> x.status(9));
        Check.due("no such count", -1, () -> x.count(9));
        Check.due("a fault", -9, () -> Check.house(x, "good"));
        for (int kind = 0; kind < 3; kind++) {
            int k = kind;
            Check.due("none refused " + k, 0, () -> x.status(k));
        }
    }

    static void noneForOthers() {
        Check.sentence("status: NONE for others");
        ListedGoods x = Check.with(HOUSE, "");
        for (int what : new int[] {Integer.MIN_VALUE, -1, 3, 4, Integer.MAX_VALUE}) {
            Check.due("status " + what, -1, () -> x.status(what));
        }
        Check.due("it is no refusal", 0, () -> x.status(1));
    }

    static void noImageKeepsIt() {
        Check.sentence("(No IMAGE keeps it; house(), rules() leave it.)");
        ListedGoods x = Check.with(HOUSE, "");
        step(x, 0);
        Check.refused("absent", Check.ABSENT, () -> x.person(2, 0));
        x.image();
        Check.refused("absent", Check.ABSENT, () -> x.person(2, 0));
        Check.refused("unfit", Check.UNFIT, () -> x.person(0, 5));
        Check.refused("untimely", Check.UNTIMELY, () -> x.take(0, 2, 10, 0));
        x.restore();
        Check.due("by no restore", 2, () -> x.status(0));
        Check.house(x, HOUSE);
        Check.law(x, "bar ill;");
        Check.house(x, "good");
        Check.law(x, "ill");
        Check.due("absent", 2, () -> x.status(0));
        Check.due("unfit", 1, () -> x.status(1));
        Check.due("untimely", 1, () -> x.status(2));
        Check.refused("a house of too much counts", Check.UNFIT, () -> x.house(1));
        Check.refused("a law of too much counts", Check.UNFIT, () -> x.rules(1));
        Check.due("unfit", 3, () -> x.status(1));
    }

    /* ---- promise 32 ---- */

    static void countOthers() {
        Check.sentence("0 IMAGES, 1 bytes of the TAPE; NONE for others");
        ListedGoods x = Check.with(HOUSE, "");
        Check.due("none", 0, () -> x.count(0));
        Check.due("empty", 0, () -> x.count(1));
        for (int i = 0; i < 3; i++) {
            x.image();
        }
        Check.feed(x, " ".repeat(600));
        Check.due("the most images", 3, () -> x.count(0));
        Check.due("the most bytes", 600, () -> x.count(1));
        x.restore();
        Check.due("one less", 2, () -> x.count(0));
        for (int what : new int[] {Integer.MIN_VALUE, -1, 2, 3, Integer.MAX_VALUE}) {
            Check.due("count " + what, -1, () -> x.count(what));
        }
        Check.due("it is no refusal", 0, () -> x.status(1));
    }
}
