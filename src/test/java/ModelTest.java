import java.util.Random;

/** Random runs (the same ones each time) in which the class and the plain model must answer alike. */
public final class ModelTest {
    private static final int RUNS = 400;
    private static final int CALLS = 480;

    private final Random random;
    private final ListedGoods x = new ListedGoods();
    private final Model m = new Model();
    private final int run;
    private final StringBuilder story = new StringBuilder();
    private int persons;
    private int goods;
    private int debts;
    private int minute;

    private ModelTest(int run) {
        this.run = run;
        random = new Random(7_000 + run);
    }

    public static void main(String[] args) {
        for (int run = 0; run < RUNS && Check.wrongSoFar() == 0; run++) {
            new ModelTest(run).play();
        }
        Check.end("ModelTest");
    }

    private void play() {
        for (int i = 0; i < 20 && x.told(2) == 0; i++) {
            tell(true, houseText());
        }
        tell(false, lawText());
        for (int i = 0; i < CALLS && Check.wrongSoFar() == 0; i++) {
            int dice = random.nextInt(210);
            if (dice == 0) {
                tell(true, spoilt(houseText()));
            } else if (dice < 3) {
                tell(false, spoilt(lawText()));
            } else {
                call(dice % 30);
            }
        }
    }

    /* ---- texts ---- */

    private int upTo(int most) {
        return random.nextInt(most + 1);
    }

    private int below(int n) {
        return n <= 0 ? 0 : random.nextInt(n);
    }

    private String houseText() {
        StringBuilder s = new StringBuilder();
        persons = 0;
        goods = 0;
        debts = 0;
        minute = 0;
        int clauses = random.nextInt(8) == 0 ? 5 + upTo(70) : 12 + upTo(24);
        for (int i = 0; i < clauses && s.length() < 570; i++) {
            s.append(clause(i)).append(random.nextInt(9) == 0 ? " ;" : ";");
        }
        return s.toString();
    }

    private String clause(int i) {
        int dice = i < 2 ? 0 : random.nextInt(40);
        int most = random.nextBoolean() ? 999 : 120;
        if (dice < 3 && (persons < 4 || dice == 0 && random.nextInt(30) == 0)) {
            persons++;
            return "person " + upTo(most) + " " + upTo(most / 3);
        }
        if (dice < 16 && (goods < 12 || random.nextInt(60) == 0)) {
            goods++;
            return "good " + below(persons) + " " + (1 + upTo(most - 1)) + " " + upTo(5);
        }
        if (dice < 22 && (debts < 6 || random.nextInt(60) == 0)) {
            debts++;
            int writ = random.nextBoolean() ? 100 * upTo(4) : upTo(9999);
            return "debt " + below(persons) + " " + (1 + upTo(random.nextBoolean() ? 300 : 9998)) + " " + writ;
        }
        if (dice < 26 && goods > 0) {
            int good = below(goods);
            return "part " + good + " " + below(persons) + " " + (1 + upTo(5));
        }
        if (dice < 30 && goods > 0) {
            int said = upTo(random.nextBoolean() ? 1000 : 9999);
            int proved = random.nextInt(3) == 0 ? 10000 : said + upTo(10000 - said);
            return "claim " + below(goods) + " " + said + " " + proved;
        }
        if (dice < 33) {
            return "ill " + below(persons) + " " + upTo(9999);
        }
        if (dice < 36) {
            return "fee " + upTo(3) + " " + upTo(99);
        }
        return "month " + below(persons) + " " + upTo(35) + " " + upTo(999);
    }

    private String lawText() {
        StringBuilder s = new StringBuilder();
        int rules = upTo(5);
        for (int i = 0; i < rules; i++) {
            String rule = "bar " + testText(0) + ";";
            if (s.length() + rule.length() <= 300) {
                s.append(rule);
            }
        }
        return s.toString();
    }

    private String testText(int depth) {
        int dice = random.nextInt(depth > 4 ? 12 : 17);
        String sign = random.nextBoolean() ? " <" : ">";
        switch (dice) {
            case 0: return "kind " + upTo(5);
            case 1: return "worth" + sign + upTo(400);
            case 2: return "owed" + sign + upTo(900);
            case 3: return "hour" + sign + upTo(23);
            case 4: return "ill";
            case 5: return "claimed";
            case 6: return "proved";
            case 7: return "forced";
            case 8: return "parted";
            case 9: return "other";
            case 10: return "ill and proved";
            case 11: return "hour <" + upTo(8);
            case 12: return "not " + testText(depth + 1);
            case 13: return "[" + testText(depth + 1) + "]";
            case 14: return testText(depth + 1) + " or " + testText(depth + 1);
            default: return testText(depth + 1) + " and " + testText(depth + 1);
        }
    }

    /* Half of the texts stay whole; the rest lose, change or gain a byte or so. */
    private String spoilt(String text) {
        StringBuilder s = new StringBuilder(text);
        String signs = "0123456789;;; <>[]abcnotandorkindill";
        for (int i = upTo(2); i > 0 && random.nextBoolean(); i--) {
            int at = upTo(s.length());
            char c = random.nextInt(20) == 0 ? (char) random.nextInt(256) : signs.charAt(below(signs.length()));
            if (at < s.length() && random.nextBoolean()) {
                s.setCharAt(at, c);
            } else if (at < s.length() && random.nextBoolean()) {
                s.deleteCharAt(at);
            } else {
                s.insert(at, c);
            }
        }
        return s.toString();
    }

    private void tell(boolean isHouse, String text) {
        String fed = text.length() > 600 ? text.substring(0, 600) : text;
        x.rules(0);
        m.rules(0);
        for (int i = 0; i < fed.length(); i += 20) {
            int[] n = new int[5];
            for (int j = 0; j < 20; j++) {
                int b = i + j < fed.length() ? fed.charAt(i + j) : ' ';
                n[j / 4] = n[j / 4] << 8 | b;
            }
            alike("feed", () -> x.feed(n[0], n[1], n[2], n[3], n[4]), () -> m.feed(n));
        }
        String what = (isHouse ? "house '" : "rules '") + fed + "'";
        int n = fed.length();
        alike(what, () -> isHouse ? x.house(n) : x.rules(n), () -> isHouse ? m.house(n) : m.rules(n));
        alike("fault", x::fault, m::fault);
        persons = x.told(0);
        goods = x.told(1);
        debts = x.told(2);
        if (isHouse) {
            minute = 0;
        }
    }

    /* ---- calls ---- */

    /* Mostly one of so many; at times none such. */
    private int pick(int howMany) {
        return random.nextInt(60) == 0 ? random.nextInt(20) - 5 : below(howMany);
    }

    private int pickMinute() {
        if (random.nextInt(60) == 0) {
            return random.nextBoolean() ? -1 : 10000;
        }
        return random.nextInt(3) == 0 ? upTo(9999) : Math.min(9999, minute + upTo(700));
    }

    private void alike(String call, Check.Call ours, Check.Call plain) {
        String want = Check.answer(plain);
        String got = Check.answer(ours);
        story.append(call).append(" -> ").append(got).append('\n');
        Check.same("run " + run + ": " + call, want, got);
        if (!want.equals(got)) {
            System.out.println(story);
        }
    }

    private void call(int which) {
        int d = pick(debts);
        int g = pick(goods);
        int p = pick(persons);
        int t = pickMinute();
        int o = random.nextInt(40) == 0 ? 3 : upTo(2);
        int w = pick(6);
        if (which < 10) {
            actions(which, d, g, p, t, o);
        } else if (which < 20) {
            states(which, d, g, p, w);
        } else {
            judgements(which, d, g, p, t, o);
        }
    }

    private void actions(int which, int d, int g, int p, int t, int o) {
        String debtGood = d + " " + g + " " + t + " " + o;
        switch (which) {
            case 0: case 1: case 2: {
                int soon = random.nextInt(5) == 0 ? t : minute + upTo(60);
                alike("take " + d + " " + g + " " + soon + " " + o, () -> x.take(d, g, soon, o), () -> m.take(d, g, soon, o));
                int last = x.told(4) - 1;
                minute = last >= 0 ? x.act(last, 2) : 0;
                break;
            }
            case 3: case 4: {
                int price = pick(1200);
                int soon = random.nextBoolean() ? t : minute;
                int acts = x.told(4);
                int listed = acts > 0 && random.nextInt(5) != 0 ? x.act(below(acts), 1) : g;
                alike("sell " + listed + " " + price + " " + soon,
                        () -> x.sell(listed, price, soon), () -> m.sell(listed, price, soon));
                break;
            }
            case 5: {
                int s = pick(4);
                alike("stage " + p + " " + s, () -> x.stage(p, s), () -> m.stage(p, s));
                break;
            }
            case 6: {
                int coin = pick(random.nextBoolean() ? 40 : 1000);
                int month = pick(36);
                alike("promise " + d + " " + coin + " " + month, () -> x.promise(d, coin, month), () -> m.promise(d, coin, month));
                break;
            }
            case 7:
                if (random.nextInt(4) == 0) {
                    alike("aside " + d, () -> x.aside(d), () -> m.aside(d));
                }
                break;
            case 8:
                if (random.nextInt(6) == 0) {
                    alike("image", x::image, m::image);
                }
                break;
            default:
                if (random.nextInt(8) == 0) {
                    alike("restore", x::restore, m::restore);
                    int last = x.told(4) - 1;
                    minute = last >= 0 ? x.act(last, 2) : 0;
                } else if (random.nextInt(4) == 0) {
                    alike("forget", x::forget, m::forget);
                } else {
                    alike("bars " + debtGood, () -> x.bars(d, g, t, o), () -> m.bars(d, g, t, o));
                }
        }
    }

    private void states(int which, int d, int g, int p, int w) {
        int month = pick(36);
        switch (which) {
            case 10: alike("told " + w, () -> x.told(w), () -> m.told(w)); break;
            case 11: alike("person " + p + " " + w, () -> x.person(p, w), () -> m.person(p, w)); break;
            case 12: alike("income " + p + " " + month, () -> x.income(p, month), () -> m.income(p, month)); break;
            case 13: alike("good " + g + " " + w, () -> x.good(g, w), () -> m.good(g, w)); break;
            case 14: alike("part " + g + " " + p, () -> x.part(g, p), () -> m.part(g, p)); break;
            case 15: alike("debt " + d + " " + w, () -> x.debt(d, w), () -> m.debt(d, w)); break;
            case 16: alike("person " + p + " 4", () -> x.person(p, 4), () -> m.person(p, 4)); break;
            case 17: alike("debt " + d + " 3", () -> x.debt(d, 3), () -> m.debt(d, 3)); break;
            case 18: alike("spare " + p + " " + month, () -> x.spare(p, month), () -> m.spare(p, month)); break;
            default:
                alike("status " + w, () -> x.status(w), () -> m.status(w));
                alike("count " + w, () -> x.count(w), () -> m.count(w));
        }
    }

    private void judgements(int which, int d, int g, int p, int t, int o) {
        String taking = d + " " + g + " " + t + " " + o;
        int w = pick(2);
        int month = pick(36);
        int r = pick(x.told(3));
        switch (which) {
            case 20: alike("bars " + taking, () -> x.bars(d, g, t, o), () -> m.bars(d, g, t, o)); break;
            case 21: alike("late " + taking, () -> x.late(d, g, t, o), () -> m.late(d, g, t, o)); break;
            case 22: alike("isSo " + r + " " + taking, () -> x.isSo(r, d, g, t, o) ? 1 : 0, () -> m.isSo(r, d, g, t, o)); break;
            case 23: {
                int i = pick(x.told(4));
                int what = pick(4);
                alike("act " + i + " " + what, () -> x.act(i, what), () -> m.act(i, what));
                break;
            }
            case 24: alike("wrong", x::wrong, m::wrong); break;
            case 25: {
                int i = pick(x.told(5));
                int what = pick(3);
                alike("kept " + i + " " + what, () -> x.kept(i, what), () -> m.kept(i, what));
                break;
            }
            case 26: alike("best " + d + " " + month + " " + w, () -> x.best(d, month, w), () -> m.best(d, month, w)); break;
            case 27: alike("cover " + d + " " + t + " " + o + " " + w, () -> x.cover(d, t, o, w), () -> m.cover(d, t, o, w)); break;
            case 28: alike("when " + taking, () -> x.when(d, g, t, o), () -> m.when(d, g, t, o)); break;
            default: {
                int seed = random.nextInt();
                int what = pick(4);
                alike("drawn " + p + " " + seed + " " + what, () -> x.drawn(p, seed, what), () -> m.drawn(p, seed, what));
            }
        }
    }
}
