/** Promises 1 to 6: a new object, the tape, HOUSE and LAW, and their FAULTS. */
public final class TextTest {
    private static final String ONE = "person 1 1;";
    private static final String OWNED = "person 1 1;person 2 2;good 0 5 0;";

    public static void main(String[] args) {
        newObject();
        tape();
        houseTakesTheTape();
        textEnds();
        houseBrings();
        rulesTakeTheTape();
        told();
        misplacedInHouse();
        numbersInHouse();
        tooManyInHouse();
        misplacedInLaw();
        numbersInLaw();
        tooManyInLaw();
        deepLaw();
        Check.end("TextTest");
    }

    private static void newObject() {
        ListedGoods x = new ListedGoods();
        for (int what = 0; what <= 5; what++) {
            int w = what;
            Check.due("new: told " + w, 0, () -> x.told(w));
        }
        Check.due("new: fault", -1, x::fault);
        Check.due("new: images", 0, () -> x.count(0));
        Check.due("new: tape", 0, () -> x.count(1));
        Check.due("new: wrong", 0, x::wrong);
        Check.refused("new: no person", Check.ABSENT, () -> x.person(0, 0));
    }

    private static void tape() {
        ListedGoods x = new ListedGoods();
        for (int i = 1; i <= 30; i++) {
            Check.due("feed " + i, 20L * i, () -> x.feed(0, 0, 0, 0, 0));
        }
        Check.due("feed beyond 600", -1, () -> x.feed(1, 2, 3, 4, 5));
        Check.due("tape stays", 600, () -> x.count(1));

        ListedGoods y = new ListedGoods();
        // "person 1 1;" and one byte of 255: the bytes of each number come the highest first.
        y.feed(0x70657273, 0x6f6e2031, 0x20313bff, 0, 0);
        Check.due("bytes above 127", -9, () -> y.house(12));
        Check.due("their place", 11, y::fault);
        y.feed(0x70657273, 0x6f6e2031, 0x20313bff, 0, 0);
        Check.due("text without them", 0, () -> y.house(11));
        Check.due("a person", 1, () -> y.told(0));
    }

    private static void houseTakesTheTape() {
        ListedGoods x = new ListedGoods();
        Check.refused("more than the tape", Check.UNFIT, () -> x.house(1));
        Check.refused("less than nothing", Check.UNFIT, () -> x.house(-1));
        Check.due("no text is a house", 0, () -> x.house(0));
        Check.feed(x, "good");
        Check.refused("beyond what was fed", Check.UNFIT, () -> x.house(21));
        Check.due("the tape stayed", 20, () -> x.count(1));
        Check.due("a fault", -9, () -> x.house(20));
        Check.due("the tape is empty after a fault", 0, () -> x.count(1));
        Check.due("its place", 4, x::fault);
        Check.refused("refused", Check.UNFIT, () -> x.house(3));
        Check.due("the fault of the latest text stays", 4, x::fault);
        Check.feed(x, ONE + "nonsense behind it");
        Check.due("the first bytes alone", 0, () -> x.house(ONE.length()));
        Check.due("no fault", -1, x::fault);
        Check.due("the rest is gone too", 0, () -> x.count(1));
    }

    /* What stands on the tape behind the text is no part of it. */
    private static void textEnds() {
        int[][] ends = {{3, 0}, {6, 6}, {8, 8}, {10, 10}, {14, 11}, {18, 18}};
        for (int[] e : ends) {
            ListedGoods x = new ListedGoods();
            Check.feed(x, "person 1 1;good 0 55 0;");
            Check.due("a text of " + e[0], -9, () -> x.house(e[0]));
            Check.due("its fault", e[1], x::fault);
        }
        ListedGoods y = new ListedGoods();
        Check.feed(y, "person 1 12;");
        Check.due("a number that goes on behind the text", -9, () -> y.house(10));
        Check.due("ends with it", 10, y::fault);
    }

    private static void houseBrings() {
        ListedGoods x = Check.with(OWNED + "debt 0 9 0;fee 0 7;", "bar ill;");
        x.take(0, 0, 5, 0);
        x.stage(0, 0);
        x.promise(0, 1, 0);
        x.sell(0, 5, 5);
        x.aside(0);
        x.image();
        Check.due("a faulty house", -8, () -> Check.house(x, "ill 0 0;"));
        Check.due("list stays", 1, () -> x.told(4));
        Check.due("promises stay", 1, () -> x.told(5));
        Check.due("stage stays", 0, () -> x.person(0, 1));
        Check.due("images stay", 1, () -> x.count(0));
        Check.due("sold stays", 5, () -> x.good(0, 4));
        Check.due("a new house", 1, () -> Check.house(x, OWNED + "debt 0 9 0;"));
        Check.due("list gone", 0, () -> x.told(4));
        Check.due("promises gone", 0, () -> x.told(5));
        Check.due("stage gone", -1, () -> x.person(0, 1));
        Check.due("images gone", 0, () -> x.count(0));
        Check.due("nothing sold", -1, () -> x.good(0, 4));
        Check.due("nothing aside", 0, () -> x.debt(0, 4));
        Check.due("law stays", 1, () -> x.told(3));
        Check.due("fee is 0 without", 0, () -> x.stage(0, 3));
        Check.due("restore", -1, x::restore);
    }

    private static void rulesTakeTheTape() {
        ListedGoods x = Check.with(OWNED + "debt 0 9 0;", "bar ill;bar other;");
        x.take(0, 0, 5, 0);
        x.image();
        Check.due("a law", 1, () -> Check.law(x, "bar forced;"));
        Check.due("the house stays", 1, () -> x.told(1));
        Check.due("the list stays", 1, () -> x.told(4));
        Check.due("images stay", 1, () -> x.count(0));
        Check.due("a faulty law", -9, () -> Check.law(x, "bar;"));
        Check.due("the law stays", 1, () -> x.told(3));
        Check.feed(x, " ".repeat(301));
        Check.refused("more than 300", Check.UNFIT, () -> x.rules(301));
        Check.refused("less than 0", Check.UNFIT, () -> x.rules(-1));
        Check.due("the tape stays", 320, () -> x.count(1));
        Check.due("300 blanks", 0, () -> x.rules(300));
        Check.due("no rules", 0, () -> x.told(3));
        Check.due("the tape is empty", 0, () -> x.count(1));
        Check.due("no text", 0, () -> x.rules(0));
        Check.refused("no tape", Check.UNFIT, () -> x.rules(1));
    }

    private static void told() {
        ListedGoods x = Check.with(OWNED + "good 1 2 3;good 1 2 3;debt 0 1 0;debt 1 1 0;debt 1 1 0;debt 0 2 0;",
                "bar ill;bar other;bar ill;bar ill;bar ill;");
        x.take(0, 0, 0, 0);
        x.promise(0, 1, 1);
        x.promise(0, 1, 1);
        int[] want = {2, 3, 4, 5, 1, 2};
        for (int what = 0; what <= 5; what++) {
            int w = what;
            Check.due("told " + w, want[w], () -> x.told(w));
        }
        Check.refused("told -1", Check.UNFIT, () -> x.told(-1));
        Check.refused("told 6", Check.UNFIT, () -> x.told(6));
    }

    private static void misplacedInHouse() {
        Check.houseFault(1, 0, ";");
        Check.houseFault(1, 2, "  ;");
        Check.houseFault(1, 0, "Person 1 1;");
        Check.houseFault(1, 0, "personal 1 1;");
        Check.houseFault(1, 0, "pers on 1 1;");
        Check.houseFault(1, 0, "personz 1 1;");
        Check.houseFault(1, 0, "aperson 1 1;");
        Check.houseFault(1, 6, "person");
        Check.houseFault(1, 9, "person   ");
        Check.houseFault(1, 7, "person -1 1;");
        Check.houseFault(1, 8, "person 1;");
        Check.houseFault(1, 9, "person 12;");
        Check.houseFault(1, 10, "person 1 1");
        Check.houseFault(1, 13, "person 1 1   ");
        Check.houseFault(1, 11, "person 1 1 1;");
        Check.houseFault(1, 11, "person 1 1 person 1 1;");
        Check.houseFault(1, 11, ONE + ";");
        Check.houseFault(1, 6, "person\t1 1;");
        Check.houseFault(1, 11, ONE + "bar ill;");
        Check.houseStands(0, "");
        Check.houseStands(0, "     ");
        Check.houseStands(0, "person1 1;");
        Check.houseStands(0, "  person  00000000000000000000999   0 ;  ");
        Check.houseStands(1, "person1 1;good0 5 5;");
        Check.houseStands(0, ONE + "ill0 0;fee3 99;month0 35 999;debt0 1 9999;");
    }

    private static void numbersInHouse() {
        Check.houseFault(2, 7, "person 1000 1;");
        Check.houseFault(2, 9, "person 1 99999999999999999999;");
        Check.houseFault(2, 7, "person 4294967297 1;");
        Check.houseFault(2, 6, "month 0 0 0;");
        Check.houseFault(2, 17, ONE + "month 1 0 0;");
        Check.houseFault(2, 19, ONE + "month 0 36 0;");
        Check.houseFault(2, 21, ONE + "month 0 0 1000;");
        Check.houseFault(2, 16, ONE + "good 1 1 0;");
        Check.houseFault(2, 18, ONE + "good 0 0 0;");
        Check.houseFault(2, 18, ONE + "good 0 1000 0;");
        Check.houseFault(2, 20, ONE + "good 0 1 6;");
        Check.houseFault(2, 38, OWNED + "part 1 1 1;");
        Check.houseFault(2, 40, OWNED + "part 0 0 1;");
        Check.houseFault(2, 40, OWNED + "part 0 2 1;");
        Check.houseFault(2, 42, OWNED + "part 0 1 0;");
        Check.houseFault(2, 42, OWNED + "part 0 1 12;");
        Check.houseFault(2, 51, OWNED + "part 0 1 1;part 0 1 1;");
        Check.houseFault(2, 64, OWNED + "person 3 3;part 0 1 6;part 0 2 6;");
        Check.houseStands(1, OWNED + "person 3 3;part 0 1 6;part 0 2 5;");
        Check.houseStands(1, OWNED + "part 0 1 11;");
        Check.houseFault(2, 39, OWNED + "claim 1 0 0;");
        Check.houseFault(2, 41, OWNED + "claim 0 10000 10000;");
        Check.houseFault(2, 43, OWNED + "claim 0 9 8;");
        Check.houseFault(2, 43, OWNED + "claim 0 9 10001;");
        Check.houseStands(1, OWNED + "claim 0 9 9;claim 0 9999 10000;");
        Check.houseFault(2, 16, ONE + "debt 1 1 1;");
        Check.houseFault(2, 18, ONE + "debt 0 0 1;");
        Check.houseFault(2, 18, ONE + "debt 0 10000 1;");
        Check.houseFault(2, 20, ONE + "debt 0 1 10000;");
        Check.houseFault(2, 15, ONE + "ill 1 0;");
        Check.houseFault(2, 17, ONE + "ill 0 10000;");
        Check.houseFault(2, 4, "fee 4 0;");
        Check.houseFault(2, 6, "fee 0 100;");
    }

    private static void tooManyInHouse() {
        String persons = ONE.repeat(4);
        Check.houseStands(0, persons);
        Check.houseFault(3, 44, persons + ONE);
        Check.houseFault(3, 45, persons + " person");
        Check.houseFault(1, 44, persons + "persons");
        String goods = ONE + "good0 1 1;".repeat(12);
        Check.houseStands(12, goods);
        Check.houseFault(3, 131, goods + "good");
        String debts = ONE + "debt0 1 1;".repeat(6);
        Check.houseStands(0, debts);
        Check.houseFault(3, 71, debts + "debt");
        String clauses = "fee0 1;".repeat(60);
        Check.houseStands(0, clauses);
        Check.houseStands(0, clauses + "  ");
        for (String word : new String[] {"person", "month", "good", "part", "claim", "debt", "ill", "fee"}) {
            Check.houseFault(3, 421, clauses + " " + word);
        }
        Check.houseFault(1, 421, clauses + " feet 0 1;");
        Check.houseFault(1, 420, clauses + ";");
    }

    private static void misplacedInLaw() {
        Check.lawFault(1, 0, "person 1 1;");
        Check.lawFault(1, 0, "barill;");
        Check.lawFault(1, 3, "bar");
        Check.lawFault(1, 4, "bar ");
        Check.lawFault(1, 7, "bar ill");
        Check.lawFault(1, 9, "bar ill  ");
        Check.lawFault(1, 4, "bar illness;");
        Check.lawFault(1, 4, "bar and ill;");
        Check.lawFault(1, 11, "bar ill and;");
        Check.lawFault(1, 11, "bar ill and");
        Check.lawFault(1, 12, "bar ill and or ill;");
        Check.lawFault(1, 8, "bar ill not other;");
        Check.lawFault(1, 7, "bar ill];");
        Check.lawFault(1, 9, "bar [ill]];");
        Check.lawFault(1, 5, "bar [];");
        Check.lawFault(1, 8, "bar [ill;");
        Check.lawFault(1, 8, "bar [ill");
        Check.lawFault(1, 7, "bar ill[other];");
        Check.lawFault(1, 8, "bar not ;");
        Check.lawFault(1, 8, "bar kind;");
        Check.lawFault(1, 8, "bar kind<3;");
        Check.lawFault(1, 10, "bar worth 3;");
        Check.lawFault(1, 10, "bar worth =3;");
        Check.lawFault(1, 10, "bar worth ;");
        Check.lawFault(1, 11, "bar worth <;");
        Check.lawFault(1, 11, "bar worth <<3;");
        Check.lawFault(1, 8, "bar hour");
        Check.lawFault(1, 8, "bar ill;;");
        Check.lawFault(1, 8, "bar ill 5;");
        Check.lawStands(0, "");
        Check.lawStands(0, "   ");
        Check.lawStands(1, "bar ill;");
        Check.lawStands(1, "  bar   not  [ ill  ]  ; ");
        Check.lawStands(1, "bar[ill]and[other]or[not[parted]];");
        Check.lawStands(2, "bar worth<5and hour>3or owed < 9999;bar not not not kind0;");
    }

    private static void numbersInLaw() {
        Check.lawFault(2, 9, "bar kind 6;");
        Check.lawFault(2, 11, "bar worth <10000;");
        Check.lawFault(2, 10, "bar owed >123456789012345678901234567890;");
        Check.lawFault(2, 11, "bar hour > 10000;");
        Check.lawStands(1, "bar kind 5 or worth >9999 or owed <0 or hour >009999;");
    }

    private static void tooManyInLaw() {
        String ten = "bar ill;".repeat(10);
        Check.lawStands(10, ten);
        Check.lawStands(10, ten + " ");
        Check.lawFault(3, 80, ten + "bar");
        Check.lawFault(3, 82, ten + "  bar ill;");
        Check.lawFault(1, 80, ten + "bars");
        Check.lawFault(1, 80, ten + "ill;");
    }

    private static void deepLaw() {
        Check.lawFault(1, 300, "bar " + "[".repeat(296));
        String deep = "bar " + "[".repeat(146) + "ill" + "]".repeat(146) + ";";
        Check.due("a deep law's bytes", 300, deep::length);
        Check.lawStands(1, deep);
        Check.lawStands(1, "bar " + "not ".repeat(73) + "ill;");
        Check.lawStands(1, "bar " + "not[".repeat(56) + "ill" + "]".repeat(56) + ";");
        Check.lawStands(1, "bar " + "ill or[".repeat(36) + "ill" + "]".repeat(36) + ";");
    }
}
