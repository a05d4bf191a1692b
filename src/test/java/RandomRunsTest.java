import java.util.Random;

/** Random runs of 512 calls, each answer against the Model's. */
public final class RandomRunsTest {
    private static final int RUNS = 200;
    private static final String[] WORDS = {"by", "van", "jail", "road", "court", "none", "or", "over", "pays", "each",
        "free", "most", ";", "0", "1", "7", "13", "999", "000", "1000", "vans", "Van", "-", "\u00e9", "\n", " "};

    private final Random random;
    private final CourtVans real = new CourtVans();
    private final Model model = new Model();
    private final StringBuilder calls = new StringBuilder();
    private int homes;
    private int wrong;

    private RandomRunsTest(long seed) {
        random = new Random(seed);
    }

    public static void main(String[] args) {
        int runs = args.length > 0 ? Integer.parseInt(args[0]) : RUNS;
        int wrong = 0;
        for (int seed = 0; seed < runs && wrong < 5; seed++) {
            RandomRunsTest t = new RandomRunsTest(seed);
            t.run(seed);
            wrong += t.wrong;
        }
        System.out.println(wrong == 0 ? runs + " random runs are as the model's" : wrong + " runs are not as the model's");
        if (wrong != 0) {
            System.exit(1);
        }
    }

    private void run(int seed) {
        int build = 60 + random.nextInt(60);
        for (int i = 0; i < 512 && wrong == 0; i++) {
            if (random.nextInt(6) == 0) {
                feedText();
            } else if (i < build ? random.nextInt(5) > 0 : random.nextInt(12) == 0) {
                build();
            } else {
                ask();
            }
        }
        if (wrong > 0) {
            System.out.println("seed " + seed + ":\n" + calls);
        }
    }

    private void due(String call, int got, int want) {
        calls.append(call).append(" -> ").append(got).append('\n');
        if (got != want) {
            wrong = 1;
            calls.append("  due is ").append(want).append('\n');
        }
    }

    /** Below n mostly; else a number that is no index, or any int. */
    private int pick(int n) {
        int r = random.nextInt(60);
        if (r == 0) {
            return random.nextInt();
        }
        if (r == 1) {
            return random.nextBoolean() ? -1 : n;
        }
        return n <= 0 ? 0 : random.nextInt(n);
    }

    private int between(int low, int high) {
        int r = random.nextInt(60);
        if (r == 0) {
            return random.nextInt();
        }
        if (r < 3) {
            return r == 1 ? low - 1 : high + 1;
        }
        if (r < 6) {
            return r < 5 ? low : high;
        }
        return low + random.nextInt(high - low + 1);
    }

    private int aPlace() {
        return pick(Math.min(8, model.w.places.size()));
    }

    private int ofKind(boolean court) {
        if (random.nextInt(40) > 0) {
            for (int tries = 0; tries < 30; tries++) {
                int p = pick(model.w.places.size());
                if (model.isPlace(p) && (model.w.places.get(p).kind() == 1) == court) {
                    return p;
                }
            }
        }
        return aPlace();
    }

    private int aHome() {
        // mostly the first ones, so that many live at one place
        for (int p = 0; p < model.w.places.size(); p++) {
            if (model.isHome(p) && random.nextInt(3) > 0) {
                return p;
            }
        }
        return ofKind(false);
    }

    private int aPerson() {
        return pick(model.w.persons.size());
    }

    /** Mostly one who CAME behind DUE, if there is one. */
    private int aLateOne() {
        for (int p = 0; p < model.w.persons.size(); p++) {
            if (model.cameAt(p, 1439) > model.w.persons.get(p).due() && random.nextInt(3) == 0) {
                return p;
            }
        }
        return aPerson();
    }

    private int aVan() {
        return pick(model.w.vans.size());
    }

    private int aMinute() {
        return random.nextInt(3) > 0 ? between(0, 1439) : between(Math.max(0, model.w.now - 30), Math.min(1439, model.w.now + 60));
    }

    private int persons() {
        if (random.nextInt(40) == 0) {
            return random.nextInt();
        }
        int all = (1 << model.w.persons.size()) - 1;
        return random.nextInt(4) == 0 ? all & random.nextInt() : all & random.nextInt() & random.nextInt();
    }

    private int ridersOf(int van) {
        int all = 0;
        for (int p = 0; p < model.w.persons.size(); p++) {
            if (model.isVan(van) && model.w.persons.get(p).home() == model.w.vans.get(van).place()) {
                all |= 1 << p;
            }
        }
        return random.nextInt(20) == 0 ? persons() : random.nextInt(4) == 0 ? all : all & random.nextInt();
    }

    private void build() {
        switch (random.nextInt(16)) {
            case 0, 1, 2, 3 -> aNewPlace();
            case 4, 5, 6, 7 -> {
                int g = random.nextInt(3) == 0 ? between(0, 3) : 0;
                int h = aHome();
                int c = ofKind(true);
                int d = 1440 * between(1, 60 + random.nextInt(60)) + (random.nextInt(5) == 0 ? aMinute() : 400 + random.nextInt(500));
                due("person(" + g + ", " + h + ", " + c + ", " + d + ")", real.person(g, h, c, d), model.person(g, h, c, d));
            }
            case 8, 9 -> {
                int h = aHome();
                int s = between(1, 6);
                int d = 1440 * between(60, 900) + between(0, random.nextInt(4) == 0 ? 1439 : 600);
                due("van(" + h + ", " + s + ", " + d + ")", real.van(h, s, d), model.van(h, s, d));
            }
            case 10 -> {
                int v = aVan();
                int m = aMinute();
                int c = between(0, 3);
                int n = between(1, random.nextBoolean() ? 20 : 240);
                due("delay(" + v + ", " + m + ", " + c + ", " + n + ")", real.delay(v, m, c, n), model.delay(v, m, c, n));
            }
            case 11, 12 -> {
                int a = aPlace();
                int b = aPlace();
                int n = between(1, random.nextBoolean() ? 60 : 300);
                due("road(" + a + ", " + b + ", " + n + ")", real.road(a, b, n), model.road(a, b, n));
            }
            case 13 -> {
                int h = between(0, 23);
                int n = between(0, 200);
                due("traffic(" + h + ", " + n + ")", real.traffic(h, n), model.traffic(h, n));
            }
            case 14 -> {
                int p = aPerson();
                int q = aPerson();
                boolean are = random.nextInt(3) > 0;
                due("bar(" + p + ", " + q + ", " + are + ")", real.bar(p, q, are), model.bar(p, q, are));
            }
            default -> {
                int p = between(0, 3);
                int q = between(0, 3);
                boolean are = random.nextInt(3) == 0;
                due("apart(" + p + ", " + q + ", " + are + ")", real.apart(p, q, are), model.apart(p, q, are));
            }
        }
    }

    private void aNewPlace() {
        int kind = homes < 2 ? 2 * random.nextInt(2) : between(0, 2);
        kind = homes > 2 && random.nextInt(3) > 0 ? 1 : kind;
        homes += kind == 1 ? 0 : 1;
        int room = kind == 1 ? between(0, 6) : between(0, random.nextBoolean() ? 3 : 20);
        int cap = kind == 1 ? between(1, 4) : between(1, 1);
        int from = random.nextInt(4) == 0 ? aMinute() : random.nextInt(600);
        int till = random.nextInt(3) == 0 ? aMinute() : 600 + random.nextInt(840);
        int hours = 1440 * from + till;
        due("place(" + kind + ", " + room + ", " + cap + ", " + hours + ")", real.place(kind, room, cap, hours),
                model.place(kind, room, cap, hours));
    }

    private void feedText() {
        if (random.nextInt(4) == 0) {
            due("read()", real.read(), model.read());
            return;
        }
        if (random.nextInt(30) == 0) {
            long l = random.nextLong();
            int n = between(1, 8);
            due("feed(" + l + ", " + n + ")", real.feed(l, n), model.feed(l, n));
            return;
        }
        StringBuilder b = new StringBuilder();
        int kind = random.nextInt(5);
        int lines = random.nextInt(12) == 0 ? 9 : 1;
        for (int i = 0; i < lines; i++) {
            b.append(kind == 0 ? "free " + random.nextInt(40) : kind == 1 ? "most " + random.nextInt(1000) : by()).append(';');
            kind = lines == 9 ? random.nextInt(2) : kind;
        }
        if (random.nextInt(12) == 0) {
            int at = random.nextInt(b.length());
            b.replace(at, Math.min(b.length(), at + random.nextInt(4)), WORDS[random.nextInt(WORDS.length)]);
        }
        for (int i = 0; i < b.length(); i += 8) {
            int n = Math.min(8, b.length() - i);
            long eight = Edges.eight(b.toString(), i, n);
            due("feed(" + eight + ", " + n + ")", real.feed(eight, n), model.feed(eight, n));
        }
    }

    private String by() {
        StringBuilder b = new StringBuilder("by ").append(WORDS[1 + random.nextInt(5)]);
        while (random.nextInt(2) == 0) {
            b.append(" or ").append(WORDS[1 + random.nextInt(5)]);
        }
        return b.append(" over ").append(random.nextInt(20)).append(" pays ").append(random.nextInt(50))
                .append(random.nextBoolean() ? " each " : "each").append(1 + random.nextInt(9)).toString();
    }

    private void ask() {
        switch (random.nextInt(5)) {
            case 0 -> askRides();
            case 1 -> askPlans();
            case 2 -> askDoors();
            case 3 -> askNight();
            default -> askHost();
        }
    }

    private void askRides() {
        int v = aVan();
        int persons = ridersOf(v);
        int p = aPerson();
        switch (random.nextInt(8)) {
            case 0, 1, 2 -> {
                int what = between(-2, 4);
                due("route(" + v + ", " + persons + ", " + what + ")", real.route(v, persons, what), model.route(v, persons, what));
            }
            case 3 -> due("arrival(" + v + ", " + persons + ", " + p + ")", real.arrival(v, persons, p), model.arrival(v, persons, p));
            case 4 -> {
                int a = aPlace();
                int b = aPlace();
                int m = aMinute();
                due("drive(" + a + ", " + b + ", " + m + ")", real.drive(a, b, m), model.drive(a, b, m));
            }
            case 5 -> {
                int q = aPerson();
                due("foes(" + p + ", " + q + ")", real.foes(p, q), model.foes(p, q));
            }
            case 6 -> {
                boolean is = random.nextInt(3) == 0;
                due("wire(" + p + ", " + is + ")", real.wire(p, is), model.wire(p, is));
            }
            default -> {
                int what = between(0, 5);
                due("of(" + p + ", " + what + ")", real.of(p, what), model.of(p, what));
            }
        }
    }

    private void askPlans() {
        int h = aHome();
        int p = aPerson();
        int i = pick(model.rows.size());
        int what = between(0, 2);
        switch (random.nextInt(11)) {
            case 0 -> due("riders(" + h + ")", real.riders(h), model.riders(h));
            case 1 -> due("plan(" + h + ")", real.plan(h), model.plan(h));
            case 2 -> due("vanOf(" + p + ")", real.vanOf(p), model.vanOf(p));
            case 3 -> due("less(" + h + ")", real.less(h), model.less(h));
            case 4 -> due("bound(" + h + ")", real.bound(h), model.bound(h));
            case 5 -> due("prove(" + h + ")", real.prove(h), model.prove(h));
            case 6 -> due("row(" + i + ", " + what + ")", real.row(i, what), model.row(i, what));
            case 7 -> {
                int v = what == 2 ? model.row(i, 2) + random.nextInt(2) : random.nextInt(4);
                due("alterRow(" + i + ", " + what + ", " + v + ")", real.alterRow(i, what, v), model.alterRow(i, what, v));
            }
            case 8 -> {
                if (random.nextInt(4) == 0) {
                    due("drop()", real.drop(), model.drop());
                }
            }
            default -> due("judge(" + h + ")", real.judge(h), model.judge(h));
        }
    }

    private void askDoors() {
        int p = aPerson();
        int m = aMinute();
        int k = random.nextBoolean() ? 1439 : aMinute();
        int v = aVan();
        int late = aLateOne();
        switch (random.nextInt(12)) {
            case 0, 1, 2 -> {
                boolean own = random.nextBoolean() && model.isPerson(p);
                int q = own ? model.w.persons.get(p).court() : aPlace();
                int proofs = between(0, 3);
                due("enter(" + p + ", " + q + ", " + m + ", " + proofs + ")", real.enter(p, q, m, proofs), model.enter(p, q, m, proofs));
            }
            case 3 -> due("at(" + p + ", " + m + ", " + k + ")", real.at(p, m, k), model.at(p, m, k));
            case 4 -> {
                int q = aPlace();
                boolean un = random.nextBoolean();
                due("counted(" + q + ", " + m + ", " + k + ", " + un + ")", real.counted(q, m, k, un), model.counted(q, m, k, un));
            }
            case 5 -> due("came(" + p + ", " + k + ")", real.came(p, k), model.came(p, k));
            case 6 -> due("heard(" + p + ", " + k + ")", real.heard(p, k), model.heard(p, k));
            case 7, 8 -> {
                int c = between(0, 4);
                due("part(" + late + ", " + v + ", " + c + ", " + k + ")", real.part(late, v, c, k), model.part(late, v, c, k));
            }
            case 9, 10 -> due("fine(" + late + ", " + v + ", " + k + ")", real.fine(late, v, k), model.fine(late, v, k));
            default -> {
                int i = pick(model.w.lines.size());
                int what = between(0, 4);
                due("line(" + i + ", " + what + ")", real.line(i, what), model.line(i, what));
            }
        }
    }

    private void askNight() {
        int p = aPerson();
        int q = aPlace();
        int persons = persons();
        int c = ofKind(true);
        int t = pick(model.w.things.size());
        switch (random.nextInt(8)) {
            case 0, 1 -> {
                int what = random.nextBoolean() ? -1 : aPerson();
                due("held(" + c + ", " + persons + ", " + what + ")", real.held(c, persons, what), model.held(c, persons, what));
            }
            case 2, 3 -> {
                int what = random.nextBoolean() ? -1 - random.nextInt(2) : aPerson();
                int few = random.nextInt(4) == 0 ? persons : persons & random.nextInt();
                int m = aMinute();
                due("night(" + c + ", " + few + ", " + m + ", " + what + ")", real.night(c, few, m, what), model.night(c, few, m, what));
            }
            case 4 -> {
                int to = random.nextInt(8) == 0 ? -1 : q;
                int whose = random.nextInt(3) == 0 ? p : 0;
                due("thing(" + whose + ", " + to + ")", real.thing(whose, to), model.thing(whose, to));
            }
            case 5 -> {
                int to = random.nextInt(4) == 0 ? -1 : q;
                due("carry(" + t + ", " + to + ")", real.carry(t, to), model.carry(t, to));
            }
            case 6 -> due("lacks(" + p + ", " + q + ")", real.lacks(p, q), model.lacks(p, q));
            default -> {
                int whose = random.nextBoolean() ? p : 0;
                due("fetch(" + whose + ", " + q + ")", real.fetch(whose, q), model.fetch(whose, q));
            }
        }
    }

    private void askHost() {
        int s = between(0, 3);
        int sort = between(0, 3);
        int i = random.nextInt(3) == 0 ? between(0, 39) : between(0, 4);
        switch (random.nextInt(12)) {
            case 0 -> {
                int to = random.nextInt(8) == 0 ? -1 : random.nextBoolean() ? 1 : sort;
                int n = random.nextInt(8) == 0 ? between(0, 40) : between(0, 8);
                due("sheet(" + s + ", " + to + ", " + n + ")", real.sheet(s, to, n), model.sheet(s, to, n));
            }
            case 1, 2, 3 -> {
                int v = random.nextInt(6) == 0 ? random.nextInt() : random.nextInt(3) == 0 ? aMinute() : random.nextInt(4);
                due("put(" + s + ", " + i + ", " + v + ")", real.put(s, i, v), model.put(s, i, v));
            }
            case 4 -> due("item(" + s + ", " + sort + ", " + i + ")", real.item(s, sort, i), model.item(s, sort, i));
            case 5 -> due("comes(" + s + ", " + i + ")", real.comes(s, i), model.comes(s, i));
            case 6, 7 -> {
                int what = between(0, 4);
                int[] many = {model.w.persons.size(), model.w.vans.size(), model.w.things.size(), 4, 1};
                int n = pick(what >= 0 && what <= 4 ? many[what] : 1);
                due("shelf(" + s + ", " + what + ", " + n + ")", real.shelf(s, what, n), model.shelf(s, what, n));
            }
            case 8 -> {
                int as = random.nextBoolean() ? between(0, 6) : between(10, 13);
                due("taken(" + s + ", " + as + ")", real.taken(s, as), model.taken(s, as));
            }
            case 9 -> {
                int act = between(0, 3);
                int x = random.nextInt(3) == 0 ? random.nextInt() : random.nextInt(3) == 0 ? Integer.MIN_VALUE : random.nextInt(100);
                due("act(" + s + ", " + act + ", " + x + ")", real.act(s, act, x), model.act(s, act, x));
                for (int t = 0; t <= model.trace.size(); t++) {
                    due("trace(" + t + ")", real.trace(t), model.trace(t));
                }
            }
            case 10 -> {
                int what = between(0, 11);
                due("many(" + what + ")", real.many(what), model.many(what));
            }
            default -> askKept();
        }
    }

    private void askKept() {
        int r = random.nextInt(6);
        if (r == 0) {
            due("again()", real.again(), model.again());
        } else if (r < 3) {
            due("keep()", real.keep(), model.keep());
        } else {
            int n = between(1, random.nextInt(4) == 0 ? 1439 : 60);
            due("minutes(" + n + ")", real.minutes(n), model.minutes(n));
        }
    }
}
