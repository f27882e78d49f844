import java.util.Arrays;
import java.util.NoSuchElementException;

/** Goods on a list: what may be taken for a debt, what is sold of it, and who is paid. */
public final class ListedGoods {
    public static final int NONE = -1;

    private static final int TAPE_BYTES = 600;
    private static final int LAW_BYTES = 300;
    private static final int CLAUSES = 60;
    private static final int RULES = 10;
    private static final int PERSONS = 4;
    private static final int GOODS = 12;
    private static final int DEBTS = 6;
    private static final int KINDS = 6;
    private static final int STAGES = 4;
    private static final int MONTHS = 36;
    private static final int ACTS = 24;
    private static final int PROMISES = 8;
    private static final int IMAGES = 3;

    private static final int TWELFTHS = 12;
    private static final int LAST_MINUTE = 9_999;
    private static final int NEVER = 10_000;
    private static final int MOST_COIN = 999;
    private static final int MOST_OWED = 9_999;
    private static final int MOST_FEE = 99;
    private static final int FORCED_DOOR = 2;

    private static final int FAULTLESS = 0;
    private static final int MISPLACED = 1;
    private static final int NO_SUCH_NUMBER = 2;
    private static final int TOO_MANY = 3;

    /* What an ATOM of the LAW asks about; also the places of the facts of a taking. */
    private static final int KIND = 0;
    private static final int WORTH = 1;
    private static final int OWED = 2;
    private static final int HOUR = 3;
    private static final int ILL = 4;
    private static final int CLAIMED = 5;
    private static final int PROVED = 6;
    private static final int FORCED = 7;
    private static final int PARTED = 8;
    private static final int OTHER = 9;
    private static final int SUBJECTS = 10;

    /* Codes of the LAW; those of OPEN to NOT are in the order in which they bind. */
    private static final int OPEN = 0;
    private static final int OR = 1;
    private static final int AND = 2;
    private static final int NOT = 3;
    private static final int BELOW = 4;
    private static final int ABOVE = 5;
    private static final int EQUAL = 6;

    /* The exceptions, as status() counts them. */
    private static final int ABSENT = 0;
    private static final int UNFIT = 1;
    private static final int UNTIMELY = 2;

    private final int[] tape = new int[TAPE_BYTES];
    private int tapeBytes;
    private final Text text = new Text(tape);
    private House house = new House();
    private House nextHouse = new House();
    private Law law = new Law();
    private Law nextLaw = new Law();
    private final HouseReader houseReader = new HouseReader(text, nextHouse);
    private final LawReader lawReader = new LawReader(text, nextLaw);
    private final Course course = new Course();
    private final Course[] images = new Course[IMAGES];
    private int imageCount;
    private final int[] facts = new int[SUBJECTS];
    private final Ranks ranks = new Ranks();
    private final Months months = new Months();
    private final Cover sets = new Cover();
    private final Draw draw = new Draw();
    private final int[] refusals = new int[3];

    public ListedGoods() {
        for (int i = 0; i < IMAGES; i++) {
            images[i] = new Course();
        }
    }

    public int feed(int a, int b, int c, int d, int e) {
        if (tapeBytes + 20 > TAPE_BYTES) {
            return NONE;
        }
        append(a);
        append(b);
        append(c);
        append(d);
        append(e);
        return tapeBytes;
    }

    public int house(int n) throws IllegalArgumentException {
        mustBeIn(n, 0, tapeBytes);
        tapeBytes = 0;
        text.begin(n);
        if (!houseReader.readAll(nextHouse)) {
            return text.fault - 10;
        }
        House old = house;
        house = nextHouse;
        nextHouse = old;
        course.clear();
        imageCount = 0;
        return house.goods;
    }

    public int rules(int n) throws IllegalArgumentException {
        mustBeIn(n, 0, Math.min(tapeBytes, LAW_BYTES));
        tapeBytes = 0;
        text.begin(n);
        if (!lawReader.readAll(nextLaw)) {
            return text.fault - 10;
        }
        Law old = law;
        law = nextLaw;
        nextLaw = old;
        return law.rules;
    }

    public int fault() {
        return text.place;
    }

    public int told(int what) throws IllegalArgumentException {
        mustBeIn(what, 0, 5);
        switch (what) {
            case 0: return house.persons;
            case 1: return house.goods;
            case 2: return house.debts;
            case 3: return law.rules;
            case 4: return course.acts;
            default: return course.promises;
        }
    }

    public int person(int person, int what) throws NoSuchElementException, IllegalArgumentException {
        mustExist(person, house.persons);
        mustBeIn(what, 0, 4);
        switch (what) {
            case 0: return house.needs[person];
            case 1: return course.stage[person];
            case 2: return house.feesTo(course.stage[person]);
            default: break;
        }
        ranks.pay(house, course, person);
        return what == 3 ? ranks.coin : ranks.left;
    }

    public int income(int person, int month) throws NoSuchElementException, IllegalArgumentException {
        mustExist(person, house.persons);
        mustBeIn(month, 0, MONTHS - 1);
        return house.income[person][month];
    }

    public int good(int good, int what) throws NoSuchElementException, IllegalArgumentException {
        mustExist(good, house.goods);
        mustBeIn(what, 0, 5);
        switch (what) {
            case 0: return house.owner[good];
            case 1: return house.worth[good];
            case 2: return house.kind[good];
            case 3: return course.timesListed(good);
            case 4: return course.soldFor[good];
            default: return course.givenBack[good];
        }
    }

    public int part(int good, int person) throws NoSuchElementException {
        mustExist(good, house.goods);
        mustExist(person, house.persons);
        return house.twelfths[good][person];
    }

    public int debt(int debt, int what) throws NoSuchElementException, IllegalArgumentException {
        mustExist(debt, house.debts);
        mustBeIn(what, 0, 4);
        switch (what) {
            case 0: return house.debtor[debt];
            case 1: return house.amount[debt];
            case 2: return house.writ[debt];
            case 3: return paidByRanks(debt);
            default: return course.setAside[debt];
        }
    }

    public int bars(int debt, int good, int minute, int door)
            throws NoSuchElementException, IllegalArgumentException {
        mustBeTaking(debt, good, minute, door);
        return barredBy(debt, good, minute, door);
    }

    public int late(int debt, int good, int minute, int door)
            throws NoSuchElementException, IllegalArgumentException {
        mustBeTaking(debt, good, minute, door);
        return barredInHindsight(debt, good, minute, door);
    }

    public boolean isSo(int rule, int debt, int good, int minute, int door)
            throws NoSuchElementException, IllegalArgumentException {
        mustExist(rule, law.rules);
        mustBeTaking(debt, good, minute, door);
        learn(debt, good, minute, door, minute);
        return law.holds(rule, facts);
    }

    public int take(int debt, int good, int minute, int door)
            throws NoSuchElementException, IllegalArgumentException, IllegalStateException {
        mustBeTaking(debt, good, minute, door);
        mustNotBeEarlier(minute);
        if (barredBy(debt, good, minute, door) != NONE) {
            return -1;
        }
        if (course.isListedFor(debt, good) || course.isGone(good) || course.setAside[debt] != 0) {
            return -2;
        }
        int number = course.addAct(debt, good, minute, door);
        return number == NONE ? -3 : number;
    }

    public int act(int i, int what) throws IllegalArgumentException {
        mustBeIn(what, 0, 3);
        if (i < 0 || i >= course.acts) {
            return NONE;
        }
        switch (what) {
            case 0: return course.actDebt[i];
            case 1: return course.actGood[i];
            case 2: return course.actMinute[i];
            default: return course.actDoor[i];
        }
    }

    public int wrong() {
        int bits = 0;
        for (int i = 0; i < course.acts; i++) {
            int rule = barredInHindsight(course.actDebt[i], course.actGood[i],
                    course.actMinute[i], course.actDoor[i]);
            if (rule != NONE) {
                bits |= 1 << i;
            }
        }
        return bits;
    }

    public int stage(int person, int stage) throws NoSuchElementException, IllegalArgumentException {
        mustExist(person, house.persons);
        mustBeIn(stage, 0, STAGES - 1);
        int before = course.stage[person];
        if (stage <= before) {
            return 0;
        }
        course.stage[person] = stage;
        return house.feesTo(stage) - house.feesTo(before);
    }

    public int sell(int good, int price, int minute) throws NoSuchElementException, IllegalArgumentException {
        mustExist(good, house.goods);
        mustBeIn(price, 0, MOST_OWED);
        mustBeIn(minute, 0, LAST_MINUTE);
        if (course.timesListed(good) == 0 || course.isGone(good)) {
            return -3;
        }
        if (house.isProved(good, minute)) {
            course.givenBack[good] = 1;
            return -2;
        }
        if (price < house.leastPrice(good)) {
            return -1;
        }
        course.soldFor[good] = price;
        return house.shareOf(good, house.owner[good], price);
    }

    public int aside(int debt) throws NoSuchElementException {
        mustExist(debt, house.debts);
        int got = paidByRanks(debt);
        course.setAside[debt] = 1;
        return got;
    }

    public int promise(int debt, int m, int month) throws NoSuchElementException, IllegalArgumentException {
        mustExist(debt, house.debts);
        mustBeIn(m, 1, MOST_COIN);
        mustBeIn(month, 0, MONTHS - 1);
        return course.addPromise(debt, m, month);
    }

    public int kept(int promise, int what) throws NoSuchElementException, IllegalArgumentException {
        mustExist(promise, course.promises);
        mustBeIn(what, 0, 2);
        months.ask(house, course, house.debtor[course.promisedDebt[promise]]);
        switch (what) {
            case 0: return months.brokenIn[promise];
            case 1: return months.doneIn[promise];
            default: return months.paid[promise];
        }
    }

    public int spare(int person, int month) throws NoSuchElementException, IllegalArgumentException {
        mustExist(person, house.persons);
        mustBeIn(month, 0, MONTHS - 1);
        months.ask(house, course, person);
        return months.spareIn[month];
    }

    public int best(int debt, int month, int what) throws NoSuchElementException, IllegalArgumentException {
        mustExist(debt, house.debts);
        mustBeIn(month, 0, MONTHS - 1);
        mustBeIn(what, 0, 1);
        months.ask(house, course, house.debtor[debt]);
        months.seekBest(house.amount[debt], month);
        return what == 0 ? months.bestCoin : months.bestDone;
    }

    public int forget() {
        int gone = course.promises;
        course.promises = 0;
        return gone;
    }

    public int cover(int debt, int minute, int door, int what)
            throws NoSuchElementException, IllegalArgumentException {
        mustExist(debt, house.debts);
        mustBeIn(minute, 0, LAST_MINUTE);
        mustBeIn(door, 0, FORCED_DOOR);
        mustBeIn(what, 0, 1);
        int debtor = house.debtor[debt];
        sets.clear();
        for (int g = 0; g < house.goods; g++) {
            if (!course.isGone(g) && barredBy(debt, g, minute, door) == NONE) {
                sets.offer(g, house.shareOf(g, debtor, house.worth[g]));
            }
        }
        sets.seek(house.amount[debt] + house.feesTo(course.stage[debtor]));
        return what == 0 ? sets.together : sets.bits;
    }

    public int when(int debt, int good, int minute, int door)
            throws NoSuchElementException, IllegalArgumentException {
        mustBeTaking(debt, good, minute, door);
        int t = minute;
        for (int step = 0; step <= LAST_MINUTE && t <= LAST_MINUTE; step++) {
            if (barredBy(debt, good, t, door) == NONE) {
                return t;
            }
            t = house.nextNews(house.debtor[debt], good, t);
        }
        return NONE;
    }

    public int drawn(int person, int seed, int what) throws NoSuchElementException, IllegalArgumentException {
        mustExist(person, house.persons);
        mustBeIn(what, 0, 3);
        draw.sellAll(house, course, person, seed);
        switch (what) {
            case 0: return draw.prices;
            case 1: return draw.refused;
            case 2: return draw.givenBack;
            default: return draw.coin;
        }
    }

    public int image() {
        if (imageCount >= IMAGES) {
            return -1;
        }
        images[imageCount].copy(course);
        imageCount++;
        return imageCount;
    }

    public int restore() {
        if (imageCount <= 0) {
            return -1;
        }
        imageCount--;
        course.copy(images[imageCount]);
        return imageCount;
    }

    public int status(int what) {
        return what < ABSENT || what > UNTIMELY ? NONE : refusals[what];
    }

    public int count(int what) {
        switch (what) {
            case 0: return imageCount;
            case 1: return tapeBytes;
            default: return NONE;
        }
    }

    private void append(int number) {
        for (int shift = 24; shift >= 0 && tapeBytes < TAPE_BYTES; shift -= 8) {
            tape[tapeBytes] = (number >>> shift) & 255;
            tapeBytes++;
        }
    }

    private void mustExist(int number, int howMany) {
        if (number < 0 || number >= howMany) {
            refusals[ABSENT]++;
            throw new NoSuchElementException("none with this number");
        }
    }

    private void mustBeIn(int number, int least, int most) {
        if (number < least || number > most) {
            refusals[UNFIT]++;
            throw new IllegalArgumentException("a number out of its range");
        }
    }

    private void mustBeTaking(int debt, int good, int minute, int door) {
        mustExist(debt, house.debts);
        mustExist(good, house.goods);
        mustBeIn(minute, 0, LAST_MINUTE);
        mustBeIn(door, 0, FORCED_DOOR);
    }

    private void mustNotBeEarlier(int minute) {
        if (minute < course.latestMinute()) {
            refusals[UNTIMELY]++;
            throw new IllegalStateException("earlier than the latest act");
        }
    }

    private int paidByRanks(int debt) {
        ranks.pay(house, course, house.debtor[debt]);
        return ranks.gets[debt];
    }

    private int barredBy(int debt, int good, int minute, int door) {
        learn(debt, good, minute, door, minute);
        return law.firstThatHolds(facts);
    }

    /* What is told by the last MINUTE is all that is ever told: never stands behind it. */
    private int barredInHindsight(int debt, int good, int minute, int door) {
        learn(debt, good, minute, door, LAST_MINUTE);
        return law.firstThatHolds(facts);
    }

    private void learn(int debt, int good, int minute, int door, int toldBy) {
        int debtor = house.debtor[debt];
        int has = house.twelfths[good][debtor];
        facts[KIND] = house.kind[good];
        facts[WORTH] = house.worth[good];
        facts[OWED] = owedIn(debtor, minute);
        facts[HOUR] = minute / 60 % 24;
        facts[ILL] = house.illFrom[debtor] <= toldBy ? 1 : 0;
        facts[CLAIMED] = house.claimedFrom[good] <= toldBy ? 1 : 0;
        facts[PROVED] = house.isProved(good, toldBy) ? 1 : 0;
        facts[FORCED] = door == FORCED_DOOR ? 1 : 0;
        facts[PARTED] = has < TWELFTHS ? 1 : 0;
        facts[OTHER] = has == 0 ? 1 : 0;
    }

    private int owedIn(int debtor, int minute) {
        int owed = 0;
        for (int d = 0; d < house.debts; d++) {
            if (house.debtor[d] == debtor && house.writ[d] <= minute && course.setAside[d] == 0) {
                owed += house.amount[d];
            }
        }
        return owed;
    }

    /** A text read from the left, token by token, and the first FAULT in it. */
    private static final class Text {
        private static final int HUGE = 100_000;

        final int[] bytes;
        int length;
        int next;
        int from;
        int fault;
        int place = NONE;

        Text(int[] bytes) {
            this.bytes = bytes;
        }

        void begin(int n) {
            length = Math.max(0, Math.min(n, bytes.length));
            next = 0;
            from = 0;
            fault = FAULTLESS;
            place = NONE;
        }

        /* Every FAULT is told at the first byte of the token that was read last. */
        boolean fail(int kind) {
            fault = kind;
            place = from;
            return false;
        }

        boolean isAtEnd() {
            startToken();
            return next >= length;
        }

        void readWord() {
            startToken();
            while (next < length && bytes[next] >= 'a' && bytes[next] <= 'z') {
                next++;
            }
        }

        boolean isWord(String word) {
            if (next - from != word.length()) {
                return false;
            }
            for (int i = 0; i < word.length(); i++) {
                if (bytes[from + i] != word.charAt(i)) {
                    return false;
                }
            }
            return true;
        }

        boolean hasSign(char sign) {
            startToken();
            if (next >= length || bytes[next] != sign) {
                return false;
            }
            next++;
            return true;
        }

        boolean needSign(char sign) {
            return hasSign(sign) || fail(MISPLACED);
        }

        /** The number that stands there, or NONE with a FAULT. */
        int readNumber(int least, int most) {
            startToken();
            int number = 0;
            while (next < length && bytes[next] >= '0' && bytes[next] <= '9') {
                number = Math.min(HUGE, number * 10 + bytes[next] - '0');
                next++;
            }
            if (next == from) {
                fail(MISPLACED);
                return NONE;
            }
            if (number < least || number > most) {
                fail(NO_SUCH_NUMBER);
                return NONE;
            }
            return number;
        }

        private void startToken() {
            while (next < length && bytes[next] == ' ') {
                next++;
            }
            from = next;
        }
    }

    /** What a HOUSE tells. */
    private static final class House {
        int persons;
        int goods;
        int debts;
        final int[] needs = new int[PERSONS];
        final int[][] income = new int[PERSONS][MONTHS];
        final int[] illFrom = new int[PERSONS];
        final int[] owner = new int[GOODS];
        final int[] worth = new int[GOODS];
        final int[] kind = new int[GOODS];
        final int[][] twelfths = new int[GOODS][PERSONS];
        final int[] claimedFrom = new int[GOODS];
        final int[] provedFrom = new int[GOODS];
        final int[] debtor = new int[DEBTS];
        final int[] amount = new int[DEBTS];
        final int[] writ = new int[DEBTS];
        final int[] fee = new int[STAGES];

        void clear() {
            persons = 0;
            goods = 0;
            debts = 0;
            Arrays.fill(illFrom, NEVER);
            Arrays.fill(claimedFrom, NEVER);
            Arrays.fill(provedFrom, NEVER);
            Arrays.fill(fee, 0);
        }

        boolean isProved(int good, int minute) {
            return provedFrom[good] <= minute;
        }

        int leastPrice(int good) {
            return (worth[good] + 1) / 2;
        }

        int shareOf(int good, int person, int price) {
            if (person != owner[good]) {
                return cutShare(good, person, price);
            }
            int rest = price;
            for (int p = 0; p < persons; p++) {
                if (p != person) {
                    rest -= cutShare(good, p, price);
                }
            }
            return rest;
        }

        private int cutShare(int good, int person, int price) {
            return price * twelfths[good][person] / TWELFTHS;
        }

        int feesTo(int stage) {
            int fees = 0;
            for (int s = 0; s <= stage && s < STAGES; s++) {
                fees += fee[s];
            }
            return fees;
        }

        /* Between these MINUTES no ATOM can change, so WHEN need not ask there. */
        int nextNews(int person, int good, int minute) {
            int next = (minute / 60 + 1) * 60;
            next = sooner(next, illFrom[person], minute);
            next = sooner(next, claimedFrom[good], minute);
            next = sooner(next, provedFrom[good], minute);
            for (int d = 0; d < debts; d++) {
                if (debtor[d] == person) {
                    next = sooner(next, writ[d], minute);
                }
            }
            return next;
        }

        private int sooner(int next, int news, int minute) {
            return news > minute ? Math.min(next, news) : next;
        }
    }

    /** Reads a HOUSE, clause by clause. */
    private static final class HouseReader {
        private final Text text;
        private House house;

        HouseReader(Text text, House house) {
            this.text = text;
            this.house = house;
        }

        boolean readAll(House newHouse) {
            house = newHouse;
            house.clear();
            for (int clause = 0; clause <= CLAUSES; clause++) {
                if (text.isAtEnd()) {
                    return true;
                }
                text.readWord();
                boolean read = readClause(clause == CLAUSES) && text.needSign(';');
                if (!read) {
                    return false;
                }
            }
            return false;
        }

        private boolean readClause(boolean tooMany) {
            if (text.isWord("person")) {
                return tooMany || house.persons >= PERSONS ? text.fail(TOO_MANY) : readPerson();
            }
            if (text.isWord("good")) {
                return tooMany || house.goods >= GOODS ? text.fail(TOO_MANY) : readGood();
            }
            if (text.isWord("debt")) {
                return tooMany || house.debts >= DEBTS ? text.fail(TOO_MANY) : readDebt();
            }
            if (text.isWord("month")) {
                return tooMany ? text.fail(TOO_MANY) : readMonth();
            }
            if (text.isWord("part")) {
                return tooMany ? text.fail(TOO_MANY) : readPart();
            }
            if (text.isWord("claim")) {
                return tooMany ? text.fail(TOO_MANY) : readClaim();
            }
            if (text.isWord("ill")) {
                return tooMany ? text.fail(TOO_MANY) : readIll();
            }
            if (text.isWord("fee")) {
                return tooMany ? text.fail(TOO_MANY) : readFee();
            }
            return text.fail(MISPLACED);
        }

        private int readPersonNumber() {
            return text.readNumber(0, house.persons - 1);
        }

        private int readGoodNumber() {
            return text.readNumber(0, house.goods - 1);
        }

        private boolean readPerson() {
            int income = text.readNumber(0, MOST_COIN);
            if (income == NONE) {
                return false;
            }
            int needs = text.readNumber(0, MOST_COIN);
            if (needs == NONE) {
                return false;
            }
            Arrays.fill(house.income[house.persons], income);
            house.needs[house.persons] = needs;
            house.persons++;
            return true;
        }

        private boolean readMonth() {
            int person = readPersonNumber();
            if (person == NONE) {
                return false;
            }
            int month = text.readNumber(0, MONTHS - 1);
            if (month == NONE) {
                return false;
            }
            int income = text.readNumber(0, MOST_COIN);
            if (income == NONE) {
                return false;
            }
            house.income[person][month] = income;
            return true;
        }

        private boolean readGood() {
            int owner = readPersonNumber();
            if (owner == NONE) {
                return false;
            }
            int worth = text.readNumber(1, MOST_COIN);
            if (worth == NONE) {
                return false;
            }
            int kind = text.readNumber(0, KINDS - 1);
            if (kind == NONE) {
                return false;
            }
            int good = house.goods;
            house.owner[good] = owner;
            house.worth[good] = worth;
            house.kind[good] = kind;
            Arrays.fill(house.twelfths[good], 0);
            house.twelfths[good][owner] = TWELFTHS;
            house.goods++;
            return true;
        }

        private boolean readPart() {
            int good = readGoodNumber();
            if (good == NONE) {
                return false;
            }
            int[] twelfths = house.twelfths[good];
            int owner = house.owner[good];
            int person = readPersonNumber();
            if (person == NONE) {
                return false;
            }
            // The OWNER always keeps a rest: whoever has nothing yet is neither he nor told before.
            if (twelfths[person] != 0) {
                return text.fail(NO_SUCH_NUMBER);
            }
            int part = text.readNumber(1, twelfths[owner] - 1);
            if (part == NONE) {
                return false;
            }
            twelfths[person] = part;
            twelfths[owner] -= part;
            return true;
        }

        private boolean readClaim() {
            int good = readGoodNumber();
            if (good == NONE) {
                return false;
            }
            int said = text.readNumber(0, LAST_MINUTE);
            if (said == NONE) {
                return false;
            }
            int proved = text.readNumber(said, NEVER);
            if (proved == NONE) {
                return false;
            }
            house.claimedFrom[good] = said;
            house.provedFrom[good] = proved;
            return true;
        }

        private boolean readDebt() {
            int debtor = readPersonNumber();
            if (debtor == NONE) {
                return false;
            }
            int amount = text.readNumber(1, MOST_OWED);
            if (amount == NONE) {
                return false;
            }
            int writ = text.readNumber(0, LAST_MINUTE);
            if (writ == NONE) {
                return false;
            }
            house.debtor[house.debts] = debtor;
            house.amount[house.debts] = amount;
            house.writ[house.debts] = writ;
            house.debts++;
            return true;
        }

        private boolean readIll() {
            int person = readPersonNumber();
            if (person == NONE) {
                return false;
            }
            int minute = text.readNumber(0, LAST_MINUTE);
            if (minute == NONE) {
                return false;
            }
            house.illFrom[person] = minute;
            return true;
        }

        private boolean readFee() {
            int stage = text.readNumber(0, STAGES - 1);
            if (stage == NONE) {
                return false;
            }
            int fee = text.readNumber(0, MOST_FEE);
            if (fee == NONE) {
                return false;
            }
            house.fee[stage] = fee;
            return true;
        }
    }

    /** A LAW: each RULE as a row of codes in which what is joined stands ahead of what joins it. */
    private static final class Law {
        int rules;
        int codes;
        final int[] code = new int[LAW_BYTES];
        final int[] subject = new int[LAW_BYTES];
        final int[] value = new int[LAW_BYTES];
        final int[] end = new int[RULES];
        private final boolean[] stack = new boolean[LAW_BYTES];

        void clear() {
            rules = 0;
            codes = 0;
        }

        void add(int newCode, int newSubject, int newValue) {
            if (codes < LAW_BYTES) {
                code[codes] = newCode;
                subject[codes] = newSubject;
                value[codes] = newValue;
                codes++;
            }
        }

        void endRule() {
            if (rules < RULES) {
                end[rules] = codes;
                rules++;
            }
        }

        int firstThatHolds(int[] facts) {
            for (int rule = 0; rule < rules; rule++) {
                if (holds(rule, facts)) {
                    return rule;
                }
            }
            return NONE;
        }

        boolean holds(int rule, int[] facts) {
            int top = 0;
            int start = rule > 0 ? end[rule - 1] : 0;
            for (int i = start; i < end[rule]; i++) {
                if (code[i] >= BELOW && top < LAW_BYTES) {
                    stack[top] = atomHolds(i, facts);
                    top++;
                } else if (code[i] == NOT && top >= 1) {
                    stack[top - 1] = !stack[top - 1];
                } else if (top >= 2) {
                    top--;
                    stack[top - 1] = code[i] == AND
                            ? stack[top - 1] && stack[top]
                            : stack[top - 1] || stack[top];
                }
            }
            return top > 0 && stack[0];
        }

        private boolean atomHolds(int i, int[] facts) {
            int fact = facts[subject[i]];
            switch (code[i]) {
                case BELOW: return fact < value[i];
                case ABOVE: return fact > value[i];
                default: return fact == value[i];
            }
        }
    }

    /** Reads a LAW. Brackets may nest deeper than calls should, so what waits is kept in a row. */
    private static final class LawReader {
        private final Text text;
        private Law law;
        private final int[] waiting = new int[LAW_BYTES];
        private int waits;
        private boolean wantsAtom;
        private boolean ended;

        LawReader(Text text, Law law) {
            this.text = text;
            this.law = law;
        }

        boolean readAll(Law newLaw) {
            law = newLaw;
            law.clear();
            for (int rule = 0; rule <= RULES; rule++) {
                if (text.isAtEnd()) {
                    return true;
                }
                text.readWord();
                if (!text.isWord("bar")) {
                    return text.fail(MISPLACED);
                }
                if (rule == RULES) {
                    return text.fail(TOO_MANY);
                }
                if (!readTest()) {
                    return false;
                }
                law.endRule();
            }
            return false;
        }

        private boolean readTest() {
            waits = 0;
            wantsAtom = true;
            ended = false;
            // Each step reads a byte at least, or fails.
            for (int step = 0; step <= LAW_BYTES && !ended; step++) {
                boolean read = wantsAtom ? readAtomOrAhead() : readJoinOrEnd();
                if (!read) {
                    return false;
                }
            }
            return ended;
        }

        private boolean readAtomOrAhead() {
            if (text.hasSign('[')) {
                keepWaiting(OPEN);
                return true;
            }
            text.readWord();
            if (text.isWord("not")) {
                keepWaiting(NOT);
                return true;
            }
            int subject = readSubject();
            if (subject == NONE) {
                return text.fail(MISPLACED);
            }
            wantsAtom = false;
            return readAtom(subject);
        }

        private int readSubject() {
            if (text.isWord("kind")) return KIND;
            if (text.isWord("worth")) return WORTH;
            if (text.isWord("owed")) return OWED;
            if (text.isWord("hour")) return HOUR;
            if (text.isWord("ill")) return ILL;
            if (text.isWord("claimed")) return CLAIMED;
            if (text.isWord("proved")) return PROVED;
            if (text.isWord("forced")) return FORCED;
            if (text.isWord("parted")) return PARTED;
            if (text.isWord("other")) return OTHER;
            return NONE;
        }

        private boolean readAtom(int subject) {
            int code = EQUAL;
            int value = 1;
            if (subject == KIND) {
                value = text.readNumber(0, KINDS - 1);
            } else if (subject == WORTH || subject == OWED || subject == HOUR) {
                code = text.hasSign('<') ? BELOW : ABOVE;
                if (code == ABOVE && !text.needSign('>')) {
                    return false;
                }
                value = text.readNumber(0, MOST_OWED);
            }
            law.add(code, subject, value);
            return value != NONE;
        }

        private boolean readJoinOrEnd() {
            if (text.hasSign(']')) {
                release(OR);
                if (waits == 0) {
                    return text.fail(MISPLACED);
                }
                waits--;
                return true;
            }
            if (text.hasSign(';')) {
                release(OR);
                ended = waits == 0;
                return ended || text.fail(MISPLACED);
            }
            text.readWord();
            boolean isAnd = text.isWord("and");
            if (!isAnd && !text.isWord("or")) {
                return text.fail(MISPLACED);
            }
            int join = isAnd ? AND : OR;
            release(join);
            keepWaiting(join);
            wantsAtom = true;
            return true;
        }

        private void keepWaiting(int code) {
            if (waits < LAW_BYTES) {
                waiting[waits] = code;
                waits++;
            }
        }

        /* What waits and binds at least as strongly as this has all that it joins by now. */
        private void release(int weakest) {
            while (waits > 0 && waiting[waits - 1] >= weakest) {
                waits--;
                law.add(waiting[waits], 0, 0);
            }
        }
    }

    /** What has been done since the HOUSE was told: all that an IMAGE keeps. */
    private static final class Course {
        int acts;
        final int[] actDebt = new int[ACTS];
        final int[] actGood = new int[ACTS];
        final int[] actMinute = new int[ACTS];
        final int[] actDoor = new int[ACTS];
        final int[] soldFor = new int[GOODS];
        final int[] givenBack = new int[GOODS];
        final int[] setAside = new int[DEBTS];
        final int[] stage = new int[PERSONS];
        int promises;
        final int[] promisedDebt = new int[PROMISES];
        final int[] promisedCoin = new int[PROMISES];
        final int[] promisedFrom = new int[PROMISES];

        Course() {
            clear();
        }

        void clear() {
            acts = 0;
            promises = 0;
            Arrays.fill(soldFor, NONE);
            Arrays.fill(givenBack, 0);
            Arrays.fill(setAside, 0);
            Arrays.fill(stage, NONE);
        }

        void copy(Course from) {
            acts = from.acts;
            promises = from.promises;
            System.arraycopy(from.actDebt, 0, actDebt, 0, ACTS);
            System.arraycopy(from.actGood, 0, actGood, 0, ACTS);
            System.arraycopy(from.actMinute, 0, actMinute, 0, ACTS);
            System.arraycopy(from.actDoor, 0, actDoor, 0, ACTS);
            System.arraycopy(from.soldFor, 0, soldFor, 0, GOODS);
            System.arraycopy(from.givenBack, 0, givenBack, 0, GOODS);
            System.arraycopy(from.setAside, 0, setAside, 0, DEBTS);
            System.arraycopy(from.stage, 0, stage, 0, PERSONS);
            System.arraycopy(from.promisedDebt, 0, promisedDebt, 0, PROMISES);
            System.arraycopy(from.promisedCoin, 0, promisedCoin, 0, PROMISES);
            System.arraycopy(from.promisedFrom, 0, promisedFrom, 0, PROMISES);
        }

        /** The number of the new act; NONE: the LIST is full. */
        int addAct(int debt, int good, int minute, int door) {
            if (acts >= ACTS) {
                return NONE;
            }
            actDebt[acts] = debt;
            actGood[acts] = good;
            actMinute[acts] = minute;
            actDoor[acts] = door;
            acts++;
            return acts - 1;
        }

        /** The number of the new PROMISE; NONE: there is no room for it. */
        int addPromise(int debt, int coin, int month) {
            if (promises >= PROMISES) {
                return NONE;
            }
            promisedDebt[promises] = debt;
            promisedCoin[promises] = coin;
            promisedFrom[promises] = month;
            promises++;
            return promises - 1;
        }

        int latestMinute() {
            return acts > 0 ? actMinute[acts - 1] : 0;
        }

        int timesListed(int good) {
            int times = 0;
            for (int i = 0; i < acts; i++) {
                if (actGood[i] == good) {
                    times++;
                }
            }
            return times;
        }

        boolean isListedFor(int debt, int good) {
            for (int i = 0; i < acts; i++) {
                if (actGood[i] == good && actDebt[i] == debt) {
                    return true;
                }
            }
            return false;
        }

        boolean isListedForDebtsOf(int person, int good, House house) {
            for (int i = 0; i < acts; i++) {
                if (actGood[i] == good && house.debtor[actDebt[i]] == person) {
                    return true;
                }
            }
            return false;
        }

        boolean isGone(int good) {
            return soldFor[good] != NONE || givenBack[good] != 0;
        }
    }

    /** What the COIN of one PERSON pays, by RANKS. */
    private static final class Ranks {
        int coin;
        int left;
        final int[] gets = new int[DEBTS];
        private final boolean[] inRank = new boolean[DEBTS];

        void pay(House house, Course course, int person) {
            coin = coinOf(house, course, person);
            left = Math.max(0, coin - house.feesTo(course.stage[person]));
            Arrays.fill(gets, 0);
            int writ = NONE;
            for (int rank = 0; rank < house.debts; rank++) {
                writ = nextWrit(house, course, person, writ);
                if (writ == NONE) {
                    return;
                }
                payRank(house, gatherRank(house, course, person, writ));
            }
        }

        private int coinOf(House house, Course course, int person) {
            int sum = 0;
            for (int g = 0; g < house.goods; g++) {
                int price = course.soldFor[g];
                if (price != NONE && course.isListedForDebtsOf(person, g, house)) {
                    sum += house.shareOf(g, person, price);
                }
            }
            return sum;
        }

        private int nextWrit(House house, Course course, int person, int after) {
            int next = NONE;
            for (int d = 0; d < house.debts; d++) {
                boolean counts = house.debtor[d] == person && course.setAside[d] == 0;
                if (counts && house.writ[d] > after && (next == NONE || house.writ[d] < next)) {
                    next = house.writ[d];
                }
            }
            return next;
        }

        private int gatherRank(House house, Course course, int person, int writ) {
            int owed = 0;
            for (int d = 0; d < house.debts; d++) {
                inRank[d] = house.debtor[d] == person && course.setAside[d] == 0 && house.writ[d] == writ;
                if (inRank[d]) {
                    owed += house.amount[d];
                }
            }
            return owed;
        }

        private void payRank(House house, int owed) {
            if (owed <= 0) {
                return;
            }
            int paid = Math.min(left, owed);
            int over = paid;
            for (int d = 0; d < house.debts; d++) {
                if (inRank[d]) {
                    gets[d] = paid * house.amount[d] / owed;
                    over -= gets[d];
                }
            }
            // A cut loses less than one of each DEBT, so one round gives out all that is over.
            for (int d = 0; d < house.debts; d++) {
                if (inRank[d] && over > 0 && gets[d] < house.amount[d]) {
                    gets[d]++;
                    over--;
                }
            }
            left -= paid;
        }
    }

    /** The PROMISES of one PERSON through all MONTHS, and the BEST one behind them. */
    private static final class Months {
        final int[] spareIn = new int[MONTHS];
        final int[] brokenIn = new int[PROMISES];
        final int[] doneIn = new int[PROMISES];
        final int[] paid = new int[PROMISES];
        int bestCoin;
        int bestDone;

        void ask(House house, Course course, int person) {
            for (int t = 0; t < MONTHS; t++) {
                spareIn[t] = house.income[person][t] - house.needs[person];
            }
            // A PROMISE looks only at those ahead of it, so each may go through all MONTHS at once.
            for (int i = 0; i < course.promises; i++) {
                int debt = course.promisedDebt[i];
                if (house.debtor[debt] == person) {
                    askOne(i, house.amount[debt], course.promisedCoin[i], course.promisedFrom[i]);
                }
            }
        }

        private void askOne(int i, int amount, int coin, int from) {
            brokenIn[i] = NONE;
            doneIn[i] = NONE;
            int owed = amount;
            for (int t = from; t < MONTHS && owed > 0; t++) {
                int due = Math.min(coin, owed);
                if (spareIn[t] < due) {
                    brokenIn[i] = t;
                    break;
                }
                spareIn[t] -= due;
                owed -= due;
                if (owed == 0) {
                    doneIn[i] = t;
                }
            }
            paid[i] = amount - owed;
        }

        void seekBest(int amount, int from) {
            bestCoin = NONE;
            bestDone = NONE;
            for (int coin = 1; coin <= MOST_COIN; coin++) {
                int done = from + (amount - 1) / coin;
                boolean isSooner = done < MONTHS && (bestDone == NONE || done < bestDone);
                if (isSooner && wouldHold(amount, coin, from, done)) {
                    bestCoin = coin;
                    bestDone = done;
                }
            }
        }

        private boolean wouldHold(int amount, int coin, int from, int done) {
            for (int t = from; t < done; t++) {
                if (spareIn[t] < coin) {
                    return false;
                }
            }
            return spareIn[done] >= amount - (done - from) * coin;
        }
    }

    /** The set of offered GOODS that COVERs a sum. */
    private static final class Cover {
        int together;
        int bits;
        private int offered;
        private final int[] good = new int[GOODS];
        private final int[] value = new int[GOODS];
        private final int[] below = new int[GOODS];
        private int all;

        void clear() {
            offered = 0;
            all = 0;
        }

        /* By rising numbers: then a lesser set of places is also one of lesser bits. */
        void offer(int newGood, int newValue) {
            if (offered < GOODS) {
                good[offered] = newGood;
                value[offered] = newValue;
                below[offered] = all;
                all += newValue;
                offered++;
            }
        }

        void seek(int least) {
            int bestSet = 0;
            int bestSum = NONE;
            int sum = 0;
            for (int set = 1; set < 1 << offered; set++) {
                // To count on by one puts the lowest bit of the new set, and clears all below it.
                int lowest = Integer.bitCount((set & -set) - 1);
                sum += value[lowest] - below[lowest];
                boolean isBetter = bestSet == 0 || sum < bestSum
                        || sum == bestSum && Integer.bitCount(set) < Integer.bitCount(bestSet);
                if (sum >= least && isBetter) {
                    bestSet = set;
                    bestSum = sum;
                }
            }
            together = bestSum;
            bits = bestSet == 0 ? NONE : bitsOf(bestSet);
        }

        private int bitsOf(int set) {
            int found = 0;
            for (int i = 0; i < offered; i++) {
                if ((set >> i & 1) != 0) {
                    found |= 1 << good[i];
                }
            }
            return found;
        }
    }

    /** A DRAWN sale, which changes nothing but these sums. */
    private static final class Draw {
        private static final int TIMES = 1_103_515_245;
        private static final int PLUS = 12_345;

        int prices;
        int refused;
        int givenBack;
        int coin;

        void sellAll(House house, Course course, int person, int seed) {
            prices = 0;
            refused = 0;
            givenBack = 0;
            coin = 0;
            int minute = course.latestMinute();
            int drawn = seed;
            for (int g = 0; g < house.goods; g++) {
                if (course.timesListed(g) == 0 || course.isGone(g)) {
                    continue;
                }
                if (house.isProved(g, minute)) {
                    givenBack++;
                    continue;
                }
                drawn = drawn * TIMES + PLUS;
                int price = house.worth[g] * (2 + (drawn >>> 16 & 7)) / 8;
                if (price < house.leastPrice(g)) {
                    refused++;
                    continue;
                }
                prices += price;
                if (course.isListedForDebtsOf(person, g, house)) {
                    coin += house.shareOf(g, person, price);
                }
            }
        }
    }
}
