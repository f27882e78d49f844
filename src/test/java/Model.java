import java.util.ArrayList;
import java.util.Arrays;
import java.util.List;
import java.util.NoSuchElementException;
import java.util.TreeMap;
import java.util.function.Predicate;

/** The document once more, by the plainest and slowest means, to hold the class against. */
final class Model {
    static final class Fault extends Exception {
        private static final long serialVersionUID = 1L;
        final int kind;
        final int place;

        Fault(int kind, int place) {
            this.kind = kind;
            this.place = place;
        }
    }

    record Good(int owner, int worth, int kind, TreeMap<Integer, Integer> parts, int[] claim) {
    }

    record Debt(int person, int amount, int writ) {
    }

    record Taking(Debt debt, Good good, int minute, int door, boolean late) {
    }

    static final class Told {
        final List<int[]> incomes = new ArrayList<>();
        final List<Integer> needs = new ArrayList<>();
        final List<Integer> ill = new ArrayList<>();
        final List<Good> goods = new ArrayList<>();
        final List<Debt> debts = new ArrayList<>();
        final int[] fees = new int[4];
    }

    static final class Done {
        List<int[]> list = new ArrayList<>();
        TreeMap<Integer, Integer> sold = new TreeMap<>();
        List<Integer> back = new ArrayList<>();
        List<Integer> aside = new ArrayList<>();
        TreeMap<Integer, Integer> stages = new TreeMap<>();
        List<int[]> promises = new ArrayList<>();

        Done copy() {
            Done d = new Done();
            d.list.addAll(list);
            d.sold.putAll(sold);
            d.back.addAll(back);
            d.aside.addAll(aside);
            d.stages.putAll(stages);
            d.promises.addAll(promises);
            return d;
        }
    }

    private final StringBuilder tape = new StringBuilder();
    private Told told = new Told();
    private List<Predicate<Taking>> law = new ArrayList<>();
    private Done done = new Done();
    private final List<Done> images = new ArrayList<>();
    private int fault = -1;
    private final int[] refused = new int[3];

    /* ---- texts ---- */

    private String text;
    private int at;
    private int tokenAt;

    private String token() {
        while (at < text.length() && text.charAt(at) == ' ') {
            at++;
        }
        tokenAt = at;
        if (at >= text.length()) {
            return "";
        }
        String rest = text.substring(at);
        String token = rest.replaceFirst("(?s)^([0-9]+|[a-z]+|.).*$", "$1");
        at += token.length();
        return token;
    }

    private String peek() {
        int was = at;
        String token = token();
        at = was;
        return token;
    }

    private void sign(String s) throws Fault {
        if (!token().equals(s)) {
            throw new Fault(1, tokenAt);
        }
    }

    private int number(int least, int most) throws Fault {
        String token = token();
        if (!token.matches("[0-9]+")) {
            throw new Fault(1, tokenAt);
        }
        java.math.BigInteger n = new java.math.BigInteger(token);
        if (n.bitLength() > 30 || n.intValue() < least || n.intValue() > most) {
            throw new Fault(2, tokenAt);
        }
        return n.intValue();
    }

    private Told readHouse() throws Fault {
        Told h = new Told();
        for (int clauses = 0; !peek().isEmpty(); clauses++) {
            String word = token();
            int wordAt = tokenAt;
            if (!List.of("person", "month", "good", "part", "claim", "debt", "ill", "fee").contains(word)) {
                throw new Fault(1, wordAt);
            }
            boolean full = word.equals("person") && h.needs.size() == 4
                    || word.equals("good") && h.goods.size() == 12
                    || word.equals("debt") && h.debts.size() == 6;
            if (clauses == 60 || full) {
                throw new Fault(3, wordAt);
            }
            readClause(h, word);
            sign(";");
        }
        return h;
    }

    private void readClause(Told h, String word) throws Fault {
        int lastPerson = h.needs.size() - 1;
        int lastGood = h.goods.size() - 1;
        switch (word) {
            case "person" -> {
                int[] income = new int[36];
                Arrays.fill(income, number(0, 999));
                h.incomes.add(income);
                h.needs.add(number(0, 999));
                h.ill.add(-1);
            }
            case "month" -> {
                int p = number(0, lastPerson);
                int t = number(0, 35);
                h.incomes.get(p)[t] = number(0, 999);
            }
            case "good" -> h.goods.add(new Good(number(0, lastPerson), number(1, 999), number(0, 5),
                    new TreeMap<>(), new int[] {-1, -1}));
            case "part" -> {
                Good g = h.goods.get(number(0, lastGood));
                int p = number(0, lastPerson);
                if (p == g.owner() || g.parts().containsKey(p)) {
                    throw new Fault(2, tokenAt);
                }
                int others = g.parts().values().stream().mapToInt(n -> n).sum();
                g.parts().put(p, number(1, Math.min(11, 11 - others)));
            }
            case "claim" -> {
                Good g = h.goods.get(number(0, lastGood));
                int t = number(0, 9999);
                int q = number(t, 10000);
                g.claim()[0] = t;
                g.claim()[1] = q == 10000 ? -1 : q;
            }
            case "debt" -> h.debts.add(new Debt(number(0, lastPerson), number(1, 9999), number(0, 9999)));
            case "ill" -> {
                int p = number(0, lastPerson);
                h.ill.set(p, number(0, 9999));
            }
            default -> {
                int s = number(0, 3);
                h.fees[s] = number(0, 99);
            }
        }
    }

    private List<Predicate<Taking>> readLaw() throws Fault {
        List<Predicate<Taking>> rules = new ArrayList<>();
        while (!peek().isEmpty()) {
            sign("bar");
            if (rules.size() == 10) {
                throw new Fault(3, tokenAt);
            }
            rules.add(test());
            sign(";");
        }
        return rules;
    }

    private Predicate<Taking> test() throws Fault {
        Predicate<Taking> left = both();
        while (peek().equals("or")) {
            token();
            left = left.or(both());
        }
        return left;
    }

    private Predicate<Taking> both() throws Fault {
        Predicate<Taking> left = one();
        while (peek().equals("and")) {
            token();
            left = left.and(one());
        }
        return left;
    }

    private Predicate<Taking> one() throws Fault {
        String word = token();
        switch (word) {
            case "not": return one().negate();
            case "[": {
                Predicate<Taking> inner = test();
                sign("]");
                return inner;
            }
            case "kind": {
                int k = number(0, 5);
                return t -> t.good().kind() == k;
            }
            case "worth": case "owed": case "hour": {
                String s = token();
                if (!s.equals("<") && !s.equals(">")) {
                    throw new Fault(1, tokenAt);
                }
                int v = number(0, 9999);
                return t -> {
                    int n = word.equals("worth") ? t.good().worth()
                            : word.equals("owed") ? owed(t.debt().person(), t.minute())
                            : (t.minute() / 60) % 24;
                    return s.equals("<") ? n < v : n > v;
                };
            }
            case "ill": return t -> known(told.ill.get(t.debt().person()), t);
            case "claimed": return t -> known(t.good().claim()[0], t);
            case "proved": return t -> known(t.good().claim()[1], t);
            case "forced": return t -> t.door() == 2;
            case "parted": return t -> {
                for (int p = 0; p < told.needs.size(); p++) {
                    if (p != t.debt().person() && twelfths(t.good(), p) > 0) {
                        return true;
                    }
                }
                return false;
            };
            case "other": return t -> twelfths(t.good(), t.debt().person()) == 0;
            default: throw new Fault(1, tokenAt);
        }
    }

    private static boolean known(int toldIn, Taking t) {
        return toldIn >= 0 && (t.late() || toldIn <= t.minute());
    }

    private int owed(int person, int minute) {
        int sum = 0;
        for (int d = 0; d < told.debts.size(); d++) {
            Debt debt = told.debts.get(d);
            if (debt.person() == person && debt.writ() <= minute && !done.aside.contains(d)) {
                sum += debt.amount();
            }
        }
        return sum;
    }

    /* ---- refusals ---- */

    private void exist(boolean there) {
        if (!there) {
            refused[0]++;
            throw new NoSuchElementException();
        }
    }

    private void fit(boolean fits) {
        if (!fits) {
            refused[1]++;
            throw new IllegalArgumentException();
        }
    }

    private static boolean in(int n, int least, int most) {
        return least <= n && n <= most;
    }

    private void isPerson(int p) {
        exist(in(p, 0, told.needs.size() - 1));
    }

    private void isGood(int g) {
        exist(in(g, 0, told.goods.size() - 1));
    }

    private void isDebt(int d) {
        exist(in(d, 0, told.debts.size() - 1));
    }

    /* ---- what follows from the state ---- */

    private static int twelfths(Good g, int p) {
        if (p != g.owner()) {
            return g.parts().getOrDefault(p, 0);
        }
        return 12 - g.parts().values().stream().mapToInt(n -> n).sum();
    }

    private static int share(Good g, int p, int price) {
        if (p != g.owner()) {
            return price * g.parts().getOrDefault(p, 0) / 12;
        }
        return price - g.parts().values().stream().mapToInt(n -> price * n / 12).sum();
    }

    private int fees(int p) {
        int sum = 0;
        for (int s = 0; s < 4; s++) {
            if (s <= done.stages.getOrDefault(p, -1)) {
                sum += told.fees[s];
            }
        }
        return sum;
    }

    private boolean listedForPerson(int g, int p) {
        return done.list.stream().anyMatch(a -> a[1] == g && told.debts.get(a[0]).person() == p);
    }

    private int coin(int p) {
        int sum = 0;
        for (int g : done.sold.keySet()) {
            if (listedForPerson(g, p)) {
                sum += share(told.goods.get(g), p, done.sold.get(g));
            }
        }
        return sum;
    }

    /** What each DEBT gets, and behind them what is left. */
    private int[] ranks(int p) {
        int[] gets = new int[told.debts.size() + 1];
        int left = coin(p);
        left -= Math.min(left, fees(p));
        TreeMap<Integer, List<Integer>> byWrit = new TreeMap<>();
        for (int d = 0; d < told.debts.size(); d++) {
            if (told.debts.get(d).person() == p && !done.aside.contains(d)) {
                byWrit.computeIfAbsent(told.debts.get(d).writ(), w -> new ArrayList<>()).add(d);
            }
        }
        for (List<Integer> rank : byWrit.values()) {
            int all = rank.stream().mapToInt(d -> told.debts.get(d).amount()).sum();
            int share = Math.min(all, left);
            for (int d : rank) {
                gets[d] = (int) ((long) share * told.debts.get(d).amount() / all);
                left -= gets[d];
            }
            boolean gave = true;
            while (gave && left > 0) {
                gave = false;
                for (int d : rank) {
                    if (left > 0 && gets[d] < told.debts.get(d).amount()) {
                        gets[d]++;
                        left--;
                        gave = true;
                    }
                }
            }
        }
        gets[told.debts.size()] = left;
        return gets;
    }

    /** MONTH by MONTH: of each PROMISE broken, done, paid; in the last row SPARE by MONTHS. */
    private int[][] months(List<int[]> promises, int person) {
        int[][] rows = new int[promises.size() + 1][];
        for (int i = 0; i < promises.size(); i++) {
            rows[i] = new int[] {-1, -1, 0};
        }
        int[] spares = new int[36];
        for (int t = 0; t < 36; t++) {
            int spare = told.incomes.get(person)[t] - told.needs.get(person);
            for (int i = 0; i < promises.size(); i++) {
                int[] p = promises.get(i);
                Debt debt = told.debts.get(p[0]);
                int[] row = rows[i];
                if (debt.person() != person || t < p[2] || row[0] >= 0 || row[1] >= 0) {
                    continue;
                }
                int due = Math.min(p[1], debt.amount() - row[2]);
                if (spare < due) {
                    row[0] = t;
                    continue;
                }
                spare -= due;
                row[2] += due;
                if (row[2] == debt.amount()) {
                    row[1] = t;
                }
            }
            spares[t] = spare;
        }
        rows[promises.size()] = spares;
        return rows;
    }

    private int barred(int d, int g, int minute, int door, boolean late) {
        Taking t = new Taking(told.debts.get(d), told.goods.get(g), minute, door, late);
        for (int r = 0; r < law.size(); r++) {
            if (law.get(r).test(t)) {
                return r;
            }
        }
        return -1;
    }

    private boolean gone(int g) {
        return done.sold.containsKey(g) || done.back.contains(g);
    }

    private boolean proved(int g, int minute) {
        int q = told.goods.get(g).claim()[1];
        return q >= 0 && q <= minute;
    }

    private void isTaking(int d, int g, int minute, int door) {
        isDebt(d);
        isGood(g);
        fit(in(minute, 0, 9999) && in(door, 0, 2));
    }

    /* ---- the face ---- */

    int feed(int... numbers) {
        if (tape.length() + 20 > 600) {
            return -1;
        }
        for (int n : numbers) {
            for (byte b : java.nio.ByteBuffer.allocate(4).putInt(n).array()) {
                tape.append((char) (b & 255));
            }
        }
        return tape.length();
    }

    int house(int n) {
        fit(in(n, 0, tape.length()));
        text = tape.substring(0, n);
        at = 0;
        tape.setLength(0);
        try {
            told = readHouse();
        } catch (Fault f) {
            fault = f.place;
            return f.kind - 10;
        }
        fault = -1;
        done = new Done();
        images.clear();
        return told.goods.size();
    }

    int rules(int n) {
        fit(in(n, 0, Math.min(300, tape.length())));
        text = tape.substring(0, n);
        at = 0;
        tape.setLength(0);
        try {
            law = readLaw();
        } catch (Fault f) {
            fault = f.place;
            return f.kind - 10;
        }
        fault = -1;
        return law.size();
    }

    int fault() {
        return fault;
    }

    int told(int what) {
        fit(in(what, 0, 5));
        return new int[] {told.needs.size(), told.goods.size(), told.debts.size(), law.size(),
            done.list.size(), done.promises.size()}[what];
    }

    int person(int p, int what) {
        isPerson(p);
        fit(in(what, 0, 4));
        return new int[] {told.needs.get(p), done.stages.getOrDefault(p, -1), fees(p), coin(p),
            ranks(p)[told.debts.size()]}[what];
    }

    int income(int p, int month) {
        isPerson(p);
        fit(in(month, 0, 35));
        return told.incomes.get(p)[month];
    }

    int good(int g, int what) {
        isGood(g);
        fit(in(what, 0, 5));
        Good x = told.goods.get(g);
        return new int[] {x.owner(), x.worth(), x.kind(), (int) done.list.stream().filter(a -> a[1] == g).count(),
            done.sold.getOrDefault(g, -1), done.back.contains(g) ? 1 : 0}[what];
    }

    int part(int g, int p) {
        isGood(g);
        isPerson(p);
        return twelfths(told.goods.get(g), p);
    }

    int debt(int d, int what) {
        isDebt(d);
        fit(in(what, 0, 4));
        Debt x = told.debts.get(d);
        return new int[] {x.person(), x.amount(), x.writ(), ranks(x.person())[d], done.aside.contains(d) ? 1 : 0}[what];
    }

    int bars(int d, int g, int minute, int door) {
        isTaking(d, g, minute, door);
        return barred(d, g, minute, door, false);
    }

    int late(int d, int g, int minute, int door) {
        isTaking(d, g, minute, door);
        return barred(d, g, minute, door, true);
    }

    int isSo(int r, int d, int g, int minute, int door) {
        exist(in(r, 0, law.size() - 1));
        isTaking(d, g, minute, door);
        return law.get(r).test(new Taking(told.debts.get(d), told.goods.get(g), minute, door, false)) ? 1 : 0;
    }

    int take(int d, int g, int minute, int door) {
        isTaking(d, g, minute, door);
        int acts = done.list.size();
        if (acts > 0 && minute < done.list.get(acts - 1)[2]) {
            refused[2]++;
            throw new IllegalStateException();
        }
        if (barred(d, g, minute, door, false) >= 0) {
            return -1;
        }
        if (gone(g) || done.aside.contains(d) || done.list.stream().anyMatch(a -> a[0] == d && a[1] == g)) {
            return -2;
        }
        if (acts == 24) {
            return -3;
        }
        done.list.add(new int[] {d, g, minute, door});
        return acts;
    }

    int act(int i, int what) {
        fit(in(what, 0, 3));
        return in(i, 0, done.list.size() - 1) ? done.list.get(i)[what] : -1;
    }

    int wrong() {
        int bits = 0;
        for (int i = 0; i < done.list.size(); i++) {
            int[] a = done.list.get(i);
            bits += barred(a[0], a[1], a[2], a[3], true) >= 0 ? 1 << i : 0;
        }
        return bits;
    }

    int stage(int p, int s) {
        isPerson(p);
        fit(in(s, 0, 3));
        int before = fees(p);
        done.stages.merge(p, s, Math::max);
        return fees(p) - before;
    }

    int sell(int g, int price, int minute) {
        isGood(g);
        fit(in(price, 0, 9999) && in(minute, 0, 9999));
        if (gone(g) || done.list.stream().noneMatch(a -> a[1] == g)) {
            return -3;
        }
        if (proved(g, minute)) {
            done.back.add(g);
            return -2;
        }
        if (price * 2 < told.goods.get(g).worth()) {
            return -1;
        }
        done.sold.put(g, price);
        return share(told.goods.get(g), told.goods.get(g).owner(), price);
    }

    int aside(int d) {
        isDebt(d);
        int got = ranks(told.debts.get(d).person())[d];
        if (!done.aside.contains(d)) {
            done.aside.add(d);
        }
        return got;
    }

    int promise(int d, int m, int month) {
        isDebt(d);
        fit(in(m, 1, 999) && in(month, 0, 35));
        if (done.promises.size() == 8) {
            return -1;
        }
        done.promises.add(new int[] {d, m, month});
        return done.promises.size() - 1;
    }

    int kept(int i, int what) {
        exist(in(i, 0, done.promises.size() - 1));
        fit(in(what, 0, 2));
        return months(done.promises, told.debts.get(done.promises.get(i)[0]).person())[i][what];
    }

    int spare(int p, int month) {
        isPerson(p);
        fit(in(month, 0, 35));
        return months(done.promises, p)[done.promises.size()][month];
    }

    int best(int d, int month, int what) {
        isDebt(d);
        fit(in(month, 0, 35) && in(what, 0, 1));
        int[] best = {-1, -1};
        for (int m = 1; m <= 999; m++) {
            List<int[]> with = new ArrayList<>(done.promises);
            with.add(new int[] {d, m, month});
            int end = months(with, told.debts.get(d).person())[with.size() - 1][1];
            if (end >= 0 && (best[1] < 0 || end < best[1])) {
                best = new int[] {m, end};
            }
        }
        return best[what];
    }

    int forget() {
        int n = done.promises.size();
        done.promises.clear();
        return n;
    }

    int cover(int d, int minute, int door, int what) {
        isDebt(d);
        fit(in(minute, 0, 9999) && in(door, 0, 2) && in(what, 0, 1));
        int p = told.debts.get(d).person();
        int least = told.debts.get(d).amount() + fees(p);
        int open = 0;
        for (int g = 0; g < told.goods.size(); g++) {
            open |= !gone(g) && barred(d, g, minute, door, false) < 0 ? 1 << g : 0;
        }
        int[] best = null;
        for (int set = 0; set < 1 << told.goods.size(); set++) {
            int sum = 0;
            for (int g = 0; g < told.goods.size(); g++) {
                sum += (set >> g & 1) == 1 ? share(told.goods.get(g), p, told.goods.get(g).worth()) : 0;
            }
            int[] now = {sum, Integer.bitCount(set), set};
            if ((set & ~open) == 0 && sum >= least && (best == null || Arrays.compare(now, best) < 0)) {
                best = now;
            }
        }
        return best == null ? -1 : best[what * 2];
    }

    int when(int d, int g, int minute, int door) {
        isTaking(d, g, minute, door);
        for (int t = minute; t <= 9999; t++) {
            if (barred(d, g, t, door, false) < 0) {
                return t;
            }
        }
        return -1;
    }

    int drawn(int p, int seed, int what) {
        isPerson(p);
        fit(in(what, 0, 3));
        int[] sums = new int[4];
        int last = done.list.isEmpty() ? 0 : done.list.get(done.list.size() - 1)[2];
        long s = seed & 0xffffffffL;
        for (int g = 0; g < told.goods.size(); g++) {
            int good = g;
            if (gone(g) || done.list.stream().noneMatch(a -> a[1] == good)) {
                continue;
            }
            if (proved(g, last)) {
                sums[2]++;
                continue;
            }
            s = (s * 1103515245L + 12345L) & 0xffffffffL;
            int worth = told.goods.get(g).worth();
            int price = worth * (2 + (int) (s / 65536 % 8)) / 8;
            if (price * 2 < worth) {
                sums[1]++;
                continue;
            }
            sums[0] += price;
            sums[3] += listedForPerson(g, p) ? share(told.goods.get(g), p, price) : 0;
        }
        return sums[what];
    }

    int image() {
        if (images.size() == 3) {
            return -1;
        }
        images.add(done.copy());
        return images.size();
    }

    int restore() {
        if (images.isEmpty()) {
            return -1;
        }
        done = images.remove(images.size() - 1);
        return images.size();
    }

    int status(int what) {
        return in(what, 0, 2) ? refused[what] : -1;
    }

    int count(int what) {
        return what == 0 ? images.size() : what == 1 ? tape.length() : -1;
    }
}
