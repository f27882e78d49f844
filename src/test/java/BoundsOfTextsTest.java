/** The boundary cases of promises 1 to 6 and of "TWO TEXTS": one test for each sentence that names some. */
public final class BoundsOfTextsTest {
    private static final String ONE = "person 1 1;";
    private static final String TWO = "person 1 1;person 2 2;";
    private static final String OWNED = TWO + "good 0 5 0;";
    private static final String FULL = ONE.repeat(4) + "good0 5 0;".repeat(12) + "debt0 1 0;".repeat(6);

    public static void main(String[] args) throws IllegalAccessException {
        Check.runAll(BoundsOfTextsTest.class);
    }

    /* Something of all that a HOUSE takes away or leaves. */
    private static ListedGoods used() {
        ListedGoods x = Check.with(TWO + "good 0 8 0;good 1 8 0;claim 1 0 5;debt 0 9 0;debt 1 4 0;fee 0 7;", "bar ill;");
        x.take(0, 0, 5, 1);
        x.take(0, 1, 6, 0);
        x.sell(0, 8, 6);
        x.sell(1, 8, 6);
        x.stage(0, 2);
        x.promise(1, 1, 0);
        x.aside(1);
        x.image();
        return x;
    }

    /* ---- promise 1 ---- */

    static void newObject() {
        Check.sentence("No PERSONS; no RULES.");
        ListedGoods x = new ListedGoods();
        for (int what = 0; what <= 5; what++) {
            int w = what;
            Check.due("told " + w, 0, () -> x.told(w));
        }
        Check.due("images", 0, () -> x.count(0));
        Check.due("tape", 0, () -> x.count(1));
        Check.due("fault", -1, x::fault);
        Check.due("wrong", 0, x::wrong);
        Check.due("act", -1, () -> x.act(0, 0));
        Check.due("forget", 0, x::forget);
        Check.due("restore", -1, x::restore);
        Check.refused("person", Check.ABSENT, () -> x.person(0, 0));
        Check.refused("income", Check.ABSENT, () -> x.income(0, 0));
        Check.refused("good", Check.ABSENT, () -> x.good(0, 0));
        Check.refused("part", Check.ABSENT, () -> x.part(0, 0));
        Check.refused("debt", Check.ABSENT, () -> x.debt(0, 0));
        Check.refused("isSo", Check.ABSENT, () -> x.isSo(0, 0, 0, 0, 0) ? 1 : 0);
        Check.refused("kept", Check.ABSENT, () -> x.kept(0, 0));
        Check.refused("aside", Check.ABSENT, () -> x.aside(0));
        Check.refused("drawn", Check.ABSENT, () -> x.drawn(0, 0, 0));
    }

    static void calls512() {
        Check.sentence("An object is used for at most 512 calls");
        ListedGoods x = new ListedGoods();
        Check.house(x, ONE);
        for (int call = 3; call <= 512; call += 2) {
            Check.due("call " + call, 1, x::image);
            Check.due("call " + (call + 1), 0, x::restore);
        }
    }

    /* ---- promise 2 ---- */

    static void twentyBytes() {
        Check.sentence("Twenty bytes come on the TAPE: how many there are");
        ListedGoods x = new ListedGoods();
        Check.due("the first", 20, () -> x.feed(-1, -1, -1, -1, -1));
        Check.due("the second", 40, () -> x.feed(0, 0, 0, 0, 0));
        Check.due("told by count too", 40, () -> x.count(1));
    }

    static void highestByteFirst() {
        Check.sentence("of each number the highest first");
        ListedGoods x = new ListedGoods();
        x.feed(0x70657273, 0x6f6e2031, 0x20323b70, 0x6572736f, 0x6e333b20);
        x.feed(0x343b2020, 0x20202020, 0x20202020, 0x20202020, 0x20202020);
        Check.due("a number across two rows is torn by nothing", -9, () -> x.house(40));
        Check.due("but by what stands there", 18, x::fault);
        x.feed(0x70657273, 0x6f6e2031, 0x20323b70, 0x6572736f, 0x6e333320);
        x.feed(0x343b2020, 0x20202020, 0x20202020, 0x20202020, 0x20202020);
        Check.due("two persons", 0, () -> x.house(40));
        Check.due("needs", 2, () -> x.person(0, 0));
        Check.due("income", 33, () -> x.income(1, 0));
        Check.due("needs", 4, () -> x.person(1, 0));
    }

    static void bytesAbove127() {
        Check.sentence("Twenty bytes (of 0 to 255)");
        for (int shift = 0; shift <= 24; shift += 8) {
            int s = shift;
            ListedGoods x = new ListedGoods();
            // "pers" with one letter moved up by 128: no letter, and no part of the number beside it.
            x.feed(0x70657273 | 128 << s, 0x6f6e2031, 0x20313b20, 0x20202020, 0x20202020);
            Check.due("no letter", -9, () -> x.house(20));
            Check.due("its place", 0, x::fault);
            x.feed(0x70657273, 0x6f6e2031, 0x20313b20, 0x20202020, 0x20202020 | 128 << s);
            Check.due("no blank", -9, () -> x.house(20));
            Check.due("its place", 19 - s / 8, x::fault);
        }
    }

    static void moreThan600() {
        Check.sentence("NONE, doing nothing, if there would be more than 600");
        ListedGoods x = new ListedGoods();
        Check.feed(x, ONE + " ".repeat(589));
        Check.due("600 are there", 600, () -> x.count(1));
        Check.due("no more", -1, () -> x.feed(-1, -1, -1, -1, -1));
        Check.due("nor again", -1, () -> x.feed(0, 0, 0, 0, 0));
        Check.due("600 stay", 600, () -> x.count(1));
        Check.due("nothing of them has changed", 0, () -> x.house(600));
        Check.due("a person", 1, () -> x.told(0));
        Check.due("it is no refusal", 0, () -> x.status(1));
        Check.due("there is room again", 20, () -> x.feed(0, 0, 0, 0, 0));
        for (int n = 2; n <= 30; n++) {
            int bytes = 20 * n;
            Check.due("up to 600", bytes, () -> x.feed(0, 0, 0, 0, 0));
        }
    }

    /* ---- promise 3 ---- */

    static void firstBytesAreTheHouse() {
        Check.sentence("The first n bytes of the TAPE are the HOUSE: how many GOODS");
        ListedGoods x = new ListedGoods();
        Check.feed(x, OWNED + "nonsense");
        Check.due("not what stands behind them", 1, () -> x.house(OWNED.length()));
        Check.feed(x, OWNED);
        Check.due("n of 0: a house without anything", 0, () -> x.house(0));
        Check.due("no persons", 0, () -> x.told(0));
        Check.due("no text at all", 0, () -> x.house(0));
        Check.due("the most goods", 12, () -> Check.house(x, FULL));
    }

    static void tapeIsEmptyThen() {
        Check.sentence("the TAPE (empty then)");
        ListedGoods x = new ListedGoods();
        Check.feed(x, OWNED);
        x.house(11);
        Check.due("after a house", 0, () -> x.count(1));
        Check.refused("nothing to read", Check.UNFIT, () -> x.house(1));
        Check.due("the next row is the first", 20, () -> x.feed(0, 0, 0, 0, 0));
        Check.due("after a fault", -9, () -> x.house(20));
        Check.due("as well", 0, () -> x.count(1));
        Check.feed(x, OWNED);
        x.house(0);
        Check.due("after a house of no bytes", 0, () -> x.count(1));
    }

    static void goneWithAHouse() {
        Check.sentence("LIST, STAGES, PROMISES, IMAGES gone; LAW stays");
        ListedGoods x = used();
        Check.due("a house", 2, () -> Check.house(x, TWO + "good 0 8 0;good 1 8 0;debt 0 9 0;debt 1 4 0;"));
        Check.due("the list", 0, () -> x.told(4));
        Check.due("an act", -1, () -> x.act(0, 0));
        Check.due("stages", -1, () -> x.person(0, 1));
        Check.due("promises", 0, () -> x.told(5));
        Check.due("images", 0, () -> x.count(0));
        Check.due("what is sold", -1, () -> x.good(0, 4));
        Check.due("what is given back", 0, () -> x.good(1, 5));
        Check.due("what is set aside", 0, () -> x.debt(1, 4));
        Check.due("no image is left", -1, x::restore);
        Check.due("the law", 1, () -> x.told(3));
        Check.due("claims of the old house are gone", 0, () -> x.take(0, 1, 0, 0));
        Check.due("and proofs", 8, () -> x.sell(1, 8, 9999));
        Check.due("and fees", 0, () -> x.stage(0, 3));
    }

    static void nothingOfAnOldHouse() {
        Check.sentence("The first n bytes are the HOUSE (and nothing of one ahead)");
        ListedGoods x = new ListedGoods();
        String much = TWO + "good 0 5 0;good 1 5 0;part 0 1 6;claim 0 0 0;debt 0 9 0;debt 0 9 0;ill 0 0;fee 0 9;fee 3 9;month 0 3 9;";
        for (int i = 0; i < 3; i++) {
            Check.house(x, much);
        }
        Check.house(x, "goods");
        Check.law(x, "bar ill;bar claimed;bar proved;bar parted;");
        for (int i = 0; i < 3; i++) {
            Check.due("a lesser house", 1, () -> Check.house(x, "person 7 7;person 8 8;good 0 5 0;debt 0 3 0;"));
            Check.due("persons", 2, () -> x.told(0));
            Check.due("goods", 1, () -> x.told(1));
            Check.due("debts", 1, () -> x.told(2));
            Check.due("the owner's part", 12, () -> x.part(0, 0));
            Check.due("another's part", 0, () -> x.part(0, 1));
            Check.due("incomes", 7, () -> x.income(0, 3));
            Check.due("nothing told of it bars", -1, () -> x.bars(0, 0, 9999, 0));
            Check.due("fees", 0, () -> x.stage(0, 3));
        }
        Check.due("no good", 0, () -> Check.house(x, "person 7 7;"));
        Check.due("no debt", 0, () -> x.told(2));
        Check.due("no person", 0, () -> Check.house(x, ""));
        Check.due("none", 0, () -> x.told(0));
    }

    static void faultLeavesAll() {
        Check.sentence("or the FAULT less 10 (all stays)");
        String[] texts = {"goods", "person 1 1;ill 1 0;", ONE.repeat(5), OWNED + "fee 0 1"};
        int[] answers = {-9, -8, -7, -9};
        int[] places = {0, 15, 44, 40};
        for (int i = 0; i < texts.length; i++) {
            int n = i;
            ListedGoods x = used();
            String before = Check.all(x).replaceFirst("^-?\\d+", "");
            Check.due("a fault", answers[n], () -> Check.house(x, texts[n]));
            Check.due("its place", places[n], x::fault);
            Check.same("all", before, Check.all(x).replaceFirst("^-?\\d+", ""));
            Check.due("the fee stays too", 7, () -> x.stage(1, 0));
            Check.due("the image too", 0, x::restore);
        }
    }

    static void houseOfTooMuch() {
        Check.sentence("IllegalArgumentException: n is not 0 to the TAPE's bytes (it stays)");
        for (int n : new int[] {Integer.MIN_VALUE, -20, -1, 41, 60, 600, 601, Integer.MAX_VALUE}) {
            ListedGoods x = used();
            Check.feed(x, OWNED + "       ");
            Check.refusedAndAllStays("house(" + n + ")", Check.UNFIT, x, () -> x.house(n));
            Check.due("the tape stays", 40, () -> x.count(1));
            Check.due("and all that is on it", 1, () -> x.house(40));
        }
    }

    /* ---- promise 4 ---- */

    static void lawOfTooMuch() {
        Check.sentence("Likewise the LAW (n to 300)");
        ListedGoods x = used();
        Check.feed(x, "bar other;bar ill;" + " ".repeat(302));
        for (int n : new int[] {Integer.MIN_VALUE, -1, 301, 320, 321, 600, Integer.MAX_VALUE}) {
            Check.refused("rules(" + n + ")", Check.UNFIT, () -> x.rules(n));
        }
        Check.due("the tape stays", 320, () -> x.count(1));
        Check.due("the law stays", 1, () -> x.told(3));
        Check.due("300", 2, () -> x.rules(300));
        Check.due("the tape is empty then", 0, () -> x.count(1));
        Check.refused("more than the tape", Check.UNFIT, () -> x.rules(1));
        x.feed(0, 0, 0, 0, 0);
        Check.refusedAndAllStays("more than the tape", Check.UNFIT, x, () -> x.rules(21));
    }

    static void lawFaultLeavesAll() {
        Check.sentence("Likewise the LAW: how many RULES, or the FAULT less 10 (all stays)");
        String[] texts = {"bar", "bar kind 6;", "bar ill;".repeat(11), "bar other;bar [ill;"};
        int[] answers = {-9, -8, -7, -9};
        int[] places = {3, 9, 80, 18};
        for (int i = 0; i < texts.length; i++) {
            int n = i;
            ListedGoods x = used();
            String before = Check.all(x).replaceFirst("^-?\\d+", "");
            Check.due("a fault", answers[n], () -> Check.law(x, texts[n]));
            Check.due("its place", places[n], x::fault);
            Check.same("all", before, Check.all(x).replaceFirst("^-?\\d+", ""));
            Check.due("the law is the old one", -1, () -> x.bars(0, 1, 0, 0));
        }
    }

    static void anotherLawBehindAFault() {
        Check.sentence("the FAULT (all stays): the next LAW is read from its first byte on");
        ListedGoods x = Check.with(OWNED + "debt 0 9 0;", "");
        for (String fault : new String[] {"bar [[[ill;", "bar [", "bar not not", "bar ill and", "bar ill or[not", "bar kind 0 or[kind 9",
            "bar kind 0;bar", "bar kind 0;bar kind 7;"}) {
            Check.law(x, fault);
            Check.due("no law by '" + fault + "'", 0, () -> x.told(3));
        }
        Check.due("a law", 2, () -> Check.law(x, "bar kind 1;bar kind 0;"));
        Check.due("it bars by its own rules", 1, () -> x.bars(0, 0, 0, 0));
        Check.law(x, "bar [[[kind 0;");
        Check.due("which stay behind a fault", 1, () -> x.bars(0, 0, 0, 0));
        Check.due("a shorter law", 1, () -> Check.law(x, "bar kind 2;"));
        Check.due("nothing of the longer one is left", -1, () -> x.bars(0, 0, 0, 0));
    }

    static void lawLeavesAllElse() {
        Check.sentence("how many RULES (all else stays)");
        ListedGoods x = used();
        String before = Check.all(x).replace("told 1 told 2 told 1", "told . told 2 told 1");
        Check.due("none", 0, () -> Check.law(x, ""));
        Check.due("no rules", 0, () -> x.told(3));
        Check.due("ten", 10, () -> Check.law(x, "bar ill;".repeat(10)));
        Check.due("one", 1, () -> Check.law(x, "bar ill;"));
        Check.same("all else", before, Check.all(x).replace("told 1 told 2 told 1", "told . told 2 told 1"));
    }

    /* ---- promise 5 ---- */

    static void faultOfTheLatest() {
        Check.sentence("The place of the FAULT of the latest text; NONE without.");
        ListedGoods x = new ListedGoods();
        Check.due("no text yet", -1, x::fault);
        Check.house(x, "person 1 1 1;");
        Check.due("of a house", 11, x::fault);
        Check.law(x, "bar bar;");
        Check.due("of a law", 4, x::fault);
        Check.refused("a text that is none", Check.UNFIT, () -> x.house(1));
        Check.due("the latest is the law's still", 4, x::fault);
        Check.law(x, "");
        Check.due("none in a law", -1, x::fault);
        Check.house(x, ";");
        Check.due("the first place", 0, x::fault);
        Check.house(x, ONE);
        Check.due("none in a house", -1, x::fault);
    }

    static void lastPlaces() {
        Check.sentence("at the length, if the text ends too early");
        Check.houseFault(1, 600, "person 1 1" + " ".repeat(590));
        Check.houseFault(1, 600, " ".repeat(588) + "person 1 123");
        Check.houseFault(1, 600, " ".repeat(594) + "person");
        Check.lawFault(1, 300, "bar ill" + " ".repeat(293));
        Check.lawFault(1, 300, " ".repeat(297) + "bar");
        Check.lawFault(1, 300, "bar " + "[".repeat(296));
        Check.houseFault(1, 4, "fee ");
        Check.houseFault(1, 5, "fee 0");
        Check.houseFault(1, 7, "fee 0 1");
        Check.lawFault(1, 9, "bar worth");
        Check.lawFault(1, 10, "bar worth<");
        Check.lawFault(1, 11, "bar worth<5");
        Check.lawFault(1, 7, "bar not");
        Check.lawFault(1, 10, "bar ill or");
        Check.lawFault(1, 5, "bar [");
        Check.lawFault(1, 8, "bar kind");
        Check.houseFault(1, 0, "perso");
        Check.lawFault(1, 4, "bar il");
    }

    /* ---- promise 6 ---- */

    static void toldAll() {
        Check.sentence("0 PERSONS, 1 GOODS, 2 DEBTS, 3 RULES, 4 acts on the LIST, 5 PROMISES");
        ListedGoods x = Check.with(FULL, "bar ill;".repeat(10));
        for (int i = 0; i < 24; i++) {
            x.take(i % 6, i / 6, 0, 0);
        }
        for (int i = 0; i < 8; i++) {
            x.promise(0, 1, 0);
        }
        int[] most = {4, 12, 6, 10, 24, 8};
        for (int what = 0; what <= 5; what++) {
            int w = what;
            Check.due("the most of " + w, most[w], () -> x.told(w));
        }
    }

    static void toldOthers() {
        Check.sentence("IllegalArgumentException: another what");
        for (int what : new int[] {Integer.MIN_VALUE, -1, 6, 7, Integer.MAX_VALUE}) {
            ListedGoods x = used();
            Check.refusedAndAllStays("told(" + what + ")", Check.UNFIT, x, () -> x.told(what));
        }
    }

    /* ---- TWO TEXTS: a HOUSE ---- */

    static void houseOf600() {
        Check.sentence("A HOUSE is of up to 600 bytes");
        Check.houseStands(0, "");
        Check.houseStands(0, " ");
        Check.houseStands(0, " ".repeat(600));
        Check.houseStands(1, ONE + "good0 5 0;" + " ".repeat(579));
        Check.houseStands(1, " ".repeat(579) + ONE + "good0 5 0;");
        Check.houseStands(1, ONE + "good" + " ".repeat(579) + "0 5 0;");
        Check.houseFault(1, 599, ONE + " ".repeat(588) + ";");
    }

    static void clauses60() {
        Check.sentence("{ CLAUSE \";\" }, at most 60");
        Check.houseStands(0, "fee0 1;".repeat(59));
        Check.houseStands(0, "fee0 1;".repeat(60));
        Check.houseStands(0, "fee0 1;".repeat(60) + " ");
        Check.houseFault(3, 420, "fee0 1;".repeat(61));
        Check.houseFault(3, 422, "fee0 1;".repeat(60) + "  fee");
        Check.houseFault(3, 420, "fee0 1;".repeat(60) + "person 1 1;");
        Check.houseFault(1, 420, "fee0 1;".repeat(60) + ";");
        Check.houseFault(1, 0, ";");
    }

    static void persons() {
        Check.sentence("PERSONS, numbered from 0 on, 4 at most: INCOME I a MONTH, NEEDS N, 0 to 999 each");
        ListedGoods x = Check.with("person 0 999;person 999 0;person 0 0;person 999 999;", "");
        int[][] people = {{0, 999}, {999, 0}, {0, 0}, {999, 999}};
        for (int p = 0; p < 4; p++) {
            int pp = p;
            Check.due("income " + p, people[p][0], () -> x.income(pp, 17));
            Check.due("needs " + p, people[p][1], () -> x.person(pp, 0));
        }
        Check.houseFault(3, 44, ONE.repeat(5));
        Check.houseFault(2, 7, "person 1000 1;");
        Check.houseFault(2, 9, "person 1 1000;");
        Check.houseFault(1, 7, "person -1 1;");
        Check.houseFault(1, 9, "person 1 -1;");
    }

    static void months() {
        Check.sentence("\"month\" P T I (in MONTH T, 0 to 35, the INCOME of P is I, 0 to 999; the last counts)");
        ListedGoods x = Check.with(TWO + "month 0 0 0;month 0 35 999;month 1 7 5;month 1 7 999;month 1 7 0;", "");
        Check.due("month 0", 0, () -> x.income(0, 0));
        Check.due("month 1", 1, () -> x.income(0, 1));
        Check.due("month 34", 1, () -> x.income(0, 34));
        Check.due("month 35", 999, () -> x.income(0, 35));
        Check.due("the last counts", 0, () -> x.income(1, 7));
        Check.due("of one alone", 1, () -> x.income(0, 7));
        Check.houseFault(2, 30, TWO + "month 0 36 0;");
        Check.houseFault(2, 32, TWO + "month 0 0 1000;");
        Check.houseFault(2, 28, TWO + "month 2 0 0;");
    }

    static void goods() {
        Check.sentence("\"good\" P V K (GOODS likewise, 12: OWNER P, worth V, 1 to 999; KIND K: 0 to 5)");
        ListedGoods x = Check.with(TWO + "good 0 1 0;good 1 999 5;", "");
        Check.due("owner", 0, () -> x.good(0, 0));
        Check.due("least worth", 1, () -> x.good(0, 1));
        Check.due("least kind", 0, () -> x.good(0, 2));
        Check.due("owner", 1, () -> x.good(1, 0));
        Check.due("most worth", 999, () -> x.good(1, 1));
        Check.due("most kind", 5, () -> x.good(1, 2));
        Check.houseFault(2, 29, TWO + "good 0 0 0;");
        Check.houseFault(2, 29, TWO + "good 0 1000 0;");
        Check.houseFault(2, 31, TWO + "good 0 1 6;");
        Check.houseFault(2, 27, TWO + "good 2 1 0;");
        Check.houseStands(12, TWO + "good0 1 1;".repeat(12));
        Check.houseFault(3, 142, TWO + "good0 1 1;".repeat(13));
    }

    static void partOfOthers() {
        Check.sentence("\"part\" G P N (P, not its OWNER, has N of 12 of it, 1 to 11");
        Check.houseStands(1, OWNED + "part 0 1 1;");
        Check.houseStands(1, OWNED + "part 0 1 11;");
        Check.houseFault(2, 42, OWNED + "part 0 1 0;");
        Check.houseFault(2, 42, OWNED + "part 0 1 12;");
        Check.houseFault(2, 40, OWNED + "part 0 0 1;");
        Check.houseFault(2, 40, OWNED + "part 0 0 99;");
        Check.houseFault(2, 40, OWNED + "part 0 2 1;");
        Check.houseFault(2, 38, OWNED + "part 1 1 1;");
    }

    static void partsTogether() {
        Check.sentence("all such together no more than 11");
        String three = TWO + "person 3 3;person 4 4;good 0 5 0;good 0 5 0;";
        Check.houseStands(2, three + "part 0 1 10;part 0 2 1;");
        Check.houseStands(2, three + "part 0 1 4;part 0 2 4;part 0 3 3;");
        Check.houseFault(2, 86, three + "part 0 1 4;part 0 2 8;");
        Check.houseFault(2, 97, three + "part 0 1 4;part 0 2 4;part 0 3 4;");
        Check.houseFault(2, 87, three + "part 0 1 11;part 0 2 1;");
        Check.houseStands(2, three + "part 0 1 11;part 1 2 11;");
        ListedGoods x = Check.with(three + "part 0 1 4;part 0 2 4;part 0 3 3;", "");
        Check.due("the owner keeps one", 1, () -> x.part(0, 0));
    }

    static void partOnce() {
        Check.sentence("once for one G and P");
        String three = TWO + "person 3 3;good 0 5 0;good 0 5 0;";
        Check.houseFault(2, 73, three + "part 0 1 4;part 0 1 4;");
        Check.houseFault(2, 84, three + "part 0 1 4;part 0 2 4;part 0 1 1;");
        Check.houseStands(2, three + "part 0 1 4;part 1 1 4;part 0 2 4;");
    }

    static void claims() {
        Check.sentence("\"claim\" G T Q (MINUTE T, 0 to 9,999; proves it in Q, T to 10,000; 10,000 is never; the last counts)");
        Check.houseStands(1, OWNED + "claim 0 0 0;");
        Check.houseStands(1, OWNED + "claim 0 9999 9999;");
        Check.houseStands(1, OWNED + "claim 0 9999 10000;");
        Check.houseFault(2, 41, OWNED + "claim 0 10000 10000;");
        Check.houseFault(2, 46, OWNED + "claim 0 9999 9998;");
        Check.houseFault(2, 43, OWNED + "claim 0 1 0;");
        Check.houseFault(2, 43, OWNED + "claim 0 0 10001;");
        Check.houseFault(2, 39, OWNED + "claim 1 0 0;");
        ListedGoods x = Check.with(OWNED + "debt 0 1 0;claim 0 3 4;claim 0 7 10000;", "bar claimed;bar proved;");
        Check.due("the first does not count", -1, () -> x.bars(0, 0, 6, 0));
        Check.due("the last does", 0, () -> x.bars(0, 0, 7, 0));
        Check.law(x, "bar proved;");
        Check.due("its proof is never", -1, () -> x.bars(0, 0, 9999, 0));
    }

    static void debts() {
        Check.sentence("\"debt\" P A T (DEBTS likewise, 6: P owes A, 1 to 9,999, by a WRIT of MINUTE T, 0 to 9,999)");
        ListedGoods x = Check.with(TWO + "debt 0 1 9999;debt 1 9999 0;", "");
        Check.due("the least", 1, () -> x.debt(0, 1));
        Check.due("the latest", 9999, () -> x.debt(0, 2));
        Check.due("the most", 9999, () -> x.debt(1, 1));
        Check.due("the earliest", 0, () -> x.debt(1, 2));
        Check.houseFault(2, 29, TWO + "debt 0 0 0;");
        Check.houseFault(2, 29, TWO + "debt 0 10000 0;");
        Check.houseFault(2, 31, TWO + "debt 0 1 10000;");
        Check.houseFault(2, 27, TWO + "debt 2 1 0;");
        Check.houseStands(0, TWO + "debt0 1 1;".repeat(6));
        Check.houseFault(3, 82, TWO + "debt0 1 1;".repeat(7));
    }

    static void ills() {
        Check.sentence("\"ill\" P T (it is told in MINUTE T, 0 to 9,999, that P is ill; the last counts)");
        Check.houseStands(0, TWO + "ill 0 0;ill 1 9999;");
        Check.houseFault(2, 28, TWO + "ill 0 10000;");
        Check.houseFault(2, 26, TWO + "ill 2 0;");
        ListedGoods x = Check.with(OWNED + "debt 0 1 0;ill 0 3;ill 0 9;ill 1 0;", "bar ill;");
        Check.due("the first does not count", -1, () -> x.bars(0, 0, 8, 0));
        Check.due("the last does", 0, () -> x.bars(0, 0, 9, 0));
        ListedGoods y = Check.with(OWNED + "debt 0 1 0;ill 0 9;ill 0 3;", "bar ill;");
        Check.due("even if it is earlier", 0, () -> y.bars(0, 0, 3, 0));
    }

    static void fees() {
        Check.sentence("\"fee\" S F (of STAGE S, 0 to 3: F, 0 to 99; 0 without; the last counts)");
        ListedGoods x = Check.with(ONE + "fee 0 99;fee 3 1;fee 3 99;fee 2 7;fee 2 0;", "");
        Check.due("the most", 99, () -> x.stage(0, 0));
        Check.due("0 without", 0, () -> x.stage(0, 1));
        Check.due("the last counts, of 0 too", 0, () -> x.stage(0, 2));
        Check.due("the last stage", 99, () -> x.stage(0, 3));
        Check.houseFault(2, 4, "fee 4 0;");
        Check.houseFault(2, 6, "fee 0 100;");
    }

    static void toldAhead() {
        Check.sentence("P, G: told ahead.");
        Check.houseFault(2, 5, "good 0 5 0;" + ONE);
        Check.houseFault(2, 5, "debt 0 5 0;" + ONE);
        Check.houseFault(2, 4, "ill 0 0;" + ONE);
        Check.houseFault(2, 6, "month 0 0 0;" + ONE);
        Check.houseFault(2, 27, TWO + "part 0 1 1;good 0 5 0;");
        Check.houseFault(2, 28, TWO + "claim 0 0 0;good 0 5 0;");
        Check.houseFault(2, 40, OWNED + "part 0 2 1;" + ONE);
        Check.houseStands(1, OWNED + "part 0 1 1;claim 0 0 0;");
    }

    /* ---- TWO TEXTS: a LAW ---- */

    static void lawOf300() {
        Check.sentence("A LAW is of up to 300 bytes");
        Check.lawStands(0, "");
        Check.lawStands(0, " ".repeat(300));
        Check.lawStands(1, " ".repeat(292) + "bar ill;");
        Check.lawStands(1, "bar " + "[".repeat(146) + "ill" + "]".repeat(146) + ";");
        Check.lawStands(1, "bar " + "not ".repeat(73) + "ill;");
        Check.lawStands(1, "bar ill" + " or ill".repeat(41) + "     ;");
    }

    static void rules10() {
        Check.sentence("{ \"bar\" TEST \";\" }, at most 10");
        Check.lawStands(9, "bar ill;".repeat(9));
        Check.lawStands(10, "bar ill;".repeat(10) + "   ");
        Check.lawFault(3, 80, "bar ill;".repeat(11));
        Check.lawFault(3, 81, "bar ill;".repeat(10) + " bar");
        Check.lawFault(1, 80, "bar ill;".repeat(10) + ";");
        Check.lawFault(1, 0, ";");
        Check.lawFault(1, 3, "bar;");
    }

    static void numbersOfAtoms() {
        Check.sentence("\"kind\" K, \"worth\" S V, \"owed\" S V, \"hour\" S V (S: \"<\" or \">\"; V 0 to 9,999)");
        Check.lawStands(2, "bar kind 0;bar kind 5;");
        Check.lawFault(2, 9, "bar kind 6;");
        for (String atom : new String[] {"worth", "owed ", "hour "}) {
            for (String sign : new String[] {"<", ">"}) {
                Check.lawStands(2, "bar " + atom + sign + "0;bar " + atom + sign + "9999;");
                Check.lawFault(2, 10, "bar " + atom + sign + "10000;");
                Check.lawFault(1, 10, "bar " + atom + sign + ";");
                Check.lawFault(1, 10, "bar " + atom + sign + "-1;");
            }
            Check.lawFault(1, 9, "bar " + atom + "=5;");
            Check.lawFault(1, 9, "bar " + atom + ";");
            Check.lawFault(1, 9, "bar[" + atom + "];");
            Check.lawFault(1, 10, "bar " + atom + " and ill;");
            Check.lawFault(1, 9, "bar " + atom + "5;");
            Check.lawFault(1, 10, "bar " + atom + "<=5;");
        }
        Check.lawFault(1, 8, "bar kind<5;");
        Check.lawFault(1, 8, "bar kind;");
        Check.lawFault(1, 9, "bar [kind];");
        Check.lawFault(1, 9, "bar kind or ill;");
    }

    static void digits() {
        Check.sentence("Numbers: digits, as many as stand there");
        Check.houseStands(0, "person 000000000000000000000000000000000000999 0000;");
        Check.houseFault(2, 7, "person 99999999999999999999999999999999999999 1;");
        // These would be 1, if they went round at 32 or 64 bits, by sign or without.
        Check.houseFault(2, 7, "person 4294967297 1;");
        Check.houseFault(2, 7, "person 18446744073709551617 1;");
        Check.houseFault(2, 9, "person 1 8589934593;");
        Check.lawFault(2, 11, "bar worth <4294967297;");
        Check.lawFault(2, 9, "bar kind 4294967297;");
        Check.houseFault(1, 8, "person 1,1;");
        Check.houseFault(1, 8, "person 1.5 1;");
        Check.houseFault(1, 8, "person 9:1;");
        Check.houseFault(1, 7, "person /1 1;");
        Check.lawStands(1, "bar kind 5or ill;");
    }

    static void letters() {
        Check.sentence("WORDS: small letters, as many as stand there");
        Check.houseFault(1, 0, "persona 1 1;");
        Check.houseFault(1, 0, "perso 1 1;");
        Check.houseFault(1, 0, "pErson 1 1;");
        Check.houseFault(1, 0, "zerson 1 1;");
        Check.houseFault(1, 0, "persoz 1 1;");
        Check.houseFault(1, 0, "personz 1 1;");
        Check.houseFault(1, 0, "zperson 1 1;");
        Check.houseFault(1, 0, "aperson 1 1;");
        Check.houseFault(1, 0, "Person 1 1;");
        Check.houseFault(1, 6, "personA1 1;");
        Check.houseFault(1, 6, "person`1 1;");
        Check.houseFault(1, 6, "person{1 1;");
        Check.lawFault(1, 0, "barill;");
        Check.lawFault(1, 4, "bar notill;");
        Check.lawFault(1, 8, "bar ill andother;");
        Check.lawFault(1, 4, "bar illor other;");
        Check.lawStands(1, "bar[ill]or[other];");
    }

    static void blanks() {
        Check.sentence("blanks (32) may stand ahead of all these, and at the end");
        Check.houseStands(1, "   person   1   1   ;   good   0   5   0   ;   ");
        Check.houseStands(1, "person1 1;good0 5 0;");
        Check.lawStands(1, "   bar   [   worth   <   5   and   not   ill   ]   ;   ");
        Check.lawStands(1, "bar[worth<5and not ill];");
        for (int b : new int[] {0, 9, 10, 13, 31, 33, 160, 255}) {
            Check.houseFault(1, 6, "person" + (char) b + "1 1;");
            Check.houseFault(1, 11, ONE + (char) b);
            Check.houseFault(1, 0, (char) b + ONE);
            Check.lawFault(1, 8, "bar ill;" + (char) b);
            Check.lawFault(1, 7, "bar ill" + (char) b + ";");
        }
    }

    static void firstFromTheLeft() {
        Check.sentence("FAULTS, the first from the left, at its first byte");
        Check.houseFault(2, 9, "person 7 1000 nonsense;");
        Check.houseFault(2, 7, "person 1234 -;");
        Check.houseFault(1, 7, "person x 1000;");
        Check.houseFault(2, 29, TWO + "good 0 0 7;");
        Check.houseFault(2, 27, TWO + "good 9 0 7;");
        Check.houseFault(2, 10, "person 1  1000;");
        Check.lawFault(2, 9, "bar kind 7 or;");
        Check.lawFault(1, 7, "bar ill] or kind 7;");
        Check.lawFault(1, 12, "bar ill and nothing;");
        Check.houseFault(3, 44, ONE.repeat(4) + "person 1000 x");
    }

    static void ofOneTheLeast() {
        Check.sentence("3 a CLAUSE, PERSON, GOOD, DEBT or RULE too many (at its word); of one the least");
        Check.houseFault(1, 420, "fee0 1;".repeat(60) + "feee0 1;");
        Check.houseFault(1, 420, "fee0 1;".repeat(60) + "5;");
        Check.houseFault(1, 44, ONE.repeat(4) + "persons 1 1;");
        Check.lawFault(1, 80, "bar ill;".repeat(10) + "bars ill;");
        Check.lawFault(1, 80, "bar ill;".repeat(10) + "ill;");
        Check.houseFault(3, 420, "fee0 1;".repeat(60) + "ill 0 99999;");
        Check.houseFault(3, 436, ONE.repeat(4) + "fee0 1;".repeat(56) + "person 1 1;");
    }
}
